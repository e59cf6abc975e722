/-! THE LAW, BEHIND ITS LOOP: what is refused -/
section XL
variable {p : Program} {l : Launch} {e : Env} {R : Room} {s : State} {m : MethodId} {args : Array Value} {below : List Frame} {meth : Method} {c : Code} {H : Heap} {locs : List Loc} {cells slots : Nat} {Q : State → Prop}
variable {ls : Array Slot} {g0 : xG} {a : List Nat → Nat} {h : xS} {I : xI} {n jn : Nat}
theorem sCond_no (n : Nat) (a b : Int32) : sCond n 120 a b = false := by
  unfold sCond
  rw [if_neg (by decide), if_neg (by decide), if_neg (by decide), show decide ((120 : Int32) = 116) = false from by decide]
  rfl
theorem sCond_e (n : Nat) (b : Int32) : sCond n 101 10 b = false := by
  unfold sCond
  rw [if_neg (by decide), if_pos rfl]
  decide
theorem sCond_d (n : Nat) (b : Int32) : sCond n 100 10 b = false := by
  unfold sCond
  rw [if_pos (Or.inl rfl), show sIn (10 : Int32) 0 4 = false from by decide]
  rfl
set_option maxHeartbeats 1000000 in
set_option maxRecDepth 100000 in
theorem u_1440 (hst : l.stackTraces = false) (hx : p.tables.exec = Jvm.exec) (hb : c.code = cL_law) (hml : c.maxLocals = 17) (hown : s.vm.findClass "CasebookStepsLaw" = some m.cls) (hE : ∀ a, xE (setG g0 a) s s.heap) (hR : 12 ≤ R.frames ∧ 300 ≤ R.locals) {C D : Nat} (hRc : C ≤ R.cells ∧ D ≤ R.slots) (fin : ∀ (H : Heap) (locs : List Loc) (ls : Array Slot) (cells slots : Nat), cells ≤ C → slots ≤ D → va_S (gA g0) s.heap H locs → W p l e R s m args below meth c H locs cells slots Q (F0 m 1454 ls [.int 1])) (hL : LW h I jn) (ho : sOw h = 2) (hz : I [40] 0 = 10 ∧ I [40] 1 = 100) {h0 : xS} {I0 : xI} (hL0 : LW h0 I0 jn) (hdr : ∀ (n : Nat) (H : Heap), xG_ (setG g0 a) (xD h) I (xFh h) n H → xG_ (setG g0 a) (xD h0) I0 (xFh h0) 0 H) (hc : cells + 146 ≤ C) (hs : slots + 876 ≤ D) (hG : xG_ (setG g0 a) (xD h) I (xFh h) 0 H) (hS : va_S (gA g0) s.heap H locs) (hl : lv_has ls 17 [(8, .ref (a [41])), (7, .ref (a [40])), (6, .int (nI (sNc h))), (5, .int (nI (sNp h))), (3, .long (fSum h0 I0)), (1, .ref (a [0])), (0, .ref (gSb g0))]) : W p l e R s m args below meth c H locs cells slots Q (F0 m 1440 ls []) := by
  have hts := (hE a).ts args
  refine lv_aload_n hx hb dL_law_1440 rfl (lv_at hl 5 rfl) ?_
  obtain ⟨n, -, hH⟩ := hdr _ _ hG
  refine x_S1 (own := "CasebookStepsLaw") (g := setG g0 a) hx hb hml hown (hE a) hS hl.1 cyL_sum tw778 (c_sum hst (setG g0 a) n hL0) ⟨by omega, by omega⟩ ⟨by omega, by omega⟩ hH rfl rfl (Nat.le_of_ble_eq_true rfl) dL_law_1441 (fun H locs _ hS => ?_)
  refine lv_lload_n hx hb dL_law_1444 rfl (lv_at hl 4 rfl) ?_
  refine lv_lcmpE hx hb dL_law_1445 ?_
  refine lv_if_ne (tgt := 1453) hx hb dL_law_1446 (by decide) (fun q_ => absurd (by decide) q_) (fun _ => ?_)
  refine lv_iconst (v := 1) hx hb dL_law_1449 (by decide) ?_
  refine lv_goto (tgt := 1454) hx hb dL_law_1450 (by decide) ?_
  exact fin H locs ls _ _ (by omega) (by omega) hS
set_option maxHeartbeats 1000000 in
set_option maxRecDepth 100000 in
theorem u_1426 (hst : l.stackTraces = false) (hx : p.tables.exec = Jvm.exec) (hb : c.code = cL_law) (hml : c.maxLocals = 17) (hown : s.vm.findClass "CasebookStepsLaw" = some m.cls) (hE : ∀ a, xE (setG g0 a) s s.heap) (hR : 12 ≤ R.frames ∧ 300 ≤ R.locals) {C D : Nat} (hRc : C ≤ R.cells ∧ D ≤ R.slots) (fin : ∀ (H : Heap) (locs : List Loc) (ls : Array Slot) (cells slots : Nat), cells ≤ C → slots ≤ D → va_S (gA g0) s.heap H locs → W p l e R s m args below meth c H locs cells slots Q (F0 m 1454 ls [.int 1])) (hL : LW h I jn) (ho : sOw h = 2) (hz : I [40] 0 = 10 ∧ I [40] 1 = 100) {h0 : xS} {I0 : xI} (hL0 : LW h0 I0 jn) (hdr : ∀ (n : Nat) (H : Heap), xG_ (setG g0 a) (xD h) I (xFh h) n H → xG_ (setG g0 a) (xD h0) I0 (xFh h0) 0 H) (hc : cells + 147 ≤ C) (hs : slots + 882 ≤ D) (hG : xG_ (setG g0 a) (xD h) I (xFh h) 0 H) (hS : va_S (gA g0) s.heap H locs) (hl : lv_has ls 17 [(8, .ref (a [41])), (7, .ref (a [40])), (6, .int (nI (sNc h))), (5, .int (nI (sNp h))), (3, .long (fSum h0 I0)), (1, .ref (a [0])), (0, .ref (gSb g0))]) : W p l e R s m args below meth c H locs cells slots Q (F0 m 1426 ls []) := by
  have hts := (hE a).ts args
  have hn4 := hL.n
  have hW := hL.1.1.1
  have hC := hL.1.2.1.1
  have hi8 : ∀ z : 0 < sNc h, (8 : Int32) < 0 ∨ nI (sSz h (sPl h 0)) ≤ (8 : Int32) := fun z => by
    have z2 := (hn4.2.2.2 0 z).2.2
    exact Or.inr ((nI_leI (a := sSz h (sPl h 0)) (b := 8) (by omega) (by omega)).mpr z2)
  have hi9 : ∀ z : 0 < sNp h, (8 : Int32) < 0 ∨ nI (sSz h 0) ≤ (8 : Int32) := fun z => by
    have z2 := hn4.2.2.1 0 z
    exact Or.inr ((nI_leI (a := sSz h 0) (b := 8) (by omega) (by omega)).mpr z2)
  have hi3 : ∀ (z : 0 < sNc h) (j : 0 < sSz h (sPl h 0)), (3 : Int32) < 0 ∨ nI (sCn h (sPl h 0) 0 0) ≤ (3 : Int32) := fun z j => by
    have z2 := (((hW.2.2 _ (hC.2.2 0 z).1).2.2.2 0 j).2.2 0 (by decide)).2.1
    exact Or.inr ((nI_leI (a := sCn h (sPl h 0) 0 0) (b := 3) (by omega) (by omega)).mpr z2)
  refine lv_aload_n hx hb dL_law_1426 rfl (lv_at hl 5 rfl) ?_
  refine lv_iload hx hb dL_law_1427 (lv_at hl 2 rfl) ?_
  refine x_rd (g := (setG g0 a)) (As := [.ref (a [0]), .int (nI (sNc h))]) (w := .float 3212836864) hx hb hml hown (hE a) hS hl.1 cyL_share tw767 (fun n1 => ⟨_, _, ⟨by omega, by omega⟩, w_share_eIO l (setG g0 a) (xD h) I (xFh h) n1 _ _ (nI (sNc h)) trivial (t_X6_doneShare_c l hst (setG g0 a) h I n1 hC (nI (sNc h)) (Or.inr (Int32.le_refl _)))⟩) (by decide) ⟨by omega, by omega⟩ ⟨by omega, by omega⟩ hG rfl rfl (Nat.le_of_ble_eq_true rfl) dL_law_1429 (fun H locs hG hS => ?_)
  refine lv_ldcf (v := 3212836864) hx hb hown (hts _ tw774) dL_law_1432 ?_
  refine lv_fcmp hx hb dL_law_1434 ?_
  rw [show FP.fcmp 3212836864 3212836864 = some .eq from by decide +kernel]
  refine lv_if_eq (tgt := 1440) hx hb dL_law_1435 (by decide) (fun _ => ?_) (fun q => absurd rfl q)
  exact u_1440 hst hx hb hml hown hE hR hRc fin hL ho hz hL0 hdr (by omega) (by omega) hG hS (lv_sub hl [0, 1, 2, 3, 4, 5, 6] rfl)
set_option maxHeartbeats 1000000 in
set_option maxRecDepth 100000 in
theorem u_1381 (hst : l.stackTraces = false) (hx : p.tables.exec = Jvm.exec) (hb : c.code = cL_law) (hml : c.maxLocals = 17) (hown : s.vm.findClass "CasebookStepsLaw" = some m.cls) (hE : ∀ a, xE (setG g0 a) s s.heap) (hR : 12 ≤ R.frames ∧ 300 ≤ R.locals) {C D : Nat} (hRc : C ≤ R.cells ∧ D ≤ R.slots) (fin : ∀ (H : Heap) (locs : List Loc) (ls : Array Slot) (cells slots : Nat), cells ≤ C → slots ≤ D → va_S (gA g0) s.heap H locs → W p l e R s m args below meth c H locs cells slots Q (F0 m 1454 ls [.int 1])) (hL : LW h I jn) (ho : sOw h = 2) (hz : I [40] 0 = 10 ∧ I [40] 1 = 100) {h0 : xS} {I0 : xI} (hL0 : LW h0 I0 jn) (hdr : ∀ (n : Nat) (H : Heap), xG_ (setG g0 a) (xD h) I (xFh h) n H → xG_ (setG g0 a) (xD h0) I0 (xFh h0) 0 H) (hc : cells + 150 ≤ C) (hs : slots + 900 ≤ D) (hG : xG_ (setG g0 a) (xD h) I (xFh h) 0 H) (hS : va_S (gA g0) s.heap H locs) (hl : lv_has ls 17 [(8, .ref (a [41])), (7, .ref (a [40])), (6, .int (nI (sNc h))), (5, .int (nI (sNp h))), (3, .long (fSum h0 I0)), (1, .ref (a [0])), (0, .ref (gSb g0))]) : W p l e R s m args below meth c H locs cells slots Q (F0 m 1381 ls []) := by
  have hts := (hE a).ts args
  have hn4 := hL.n
  have hW := hL.1.1.1
  have hC := hL.1.2.1.1
  have hi8 : ∀ z : 0 < sNc h, (8 : Int32) < 0 ∨ nI (sSz h (sPl h 0)) ≤ (8 : Int32) := fun z => by
    have z2 := (hn4.2.2.2 0 z).2.2
    exact Or.inr ((nI_leI (a := sSz h (sPl h 0)) (b := 8) (by omega) (by omega)).mpr z2)
  have hi9 : ∀ z : 0 < sNp h, (8 : Int32) < 0 ∨ nI (sSz h 0) ≤ (8 : Int32) := fun z => by
    have z2 := hn4.2.2.1 0 z
    exact Or.inr ((nI_leI (a := sSz h 0) (b := 8) (by omega) (by omega)).mpr z2)
  have hi3 : ∀ (z : 0 < sNc h) (j : 0 < sSz h (sPl h 0)), (3 : Int32) < 0 ∨ nI (sCn h (sPl h 0) 0 0) ≤ (3 : Int32) := fun z j => by
    have z2 := (((hW.2.2 _ (hC.2.2 0 z).1).2.2.2 0 j).2.2 0 (by decide)).2.1
    exact Or.inr ((nI_leI (a := sCn h (sPl h 0) 0 0) (b := 3) (by omega) (by omega)).mpr z2)
  refine lv_aload_n hx hb dL_law_1381 rfl (lv_at hl 5 rfl) ?_
  refine lv_iload hx hb dL_law_1382 (lv_at hl 2 rfl) ?_
  refine lv_bipush (v := 7) hx hb dL_law_1384 (by decide) ?_
  refine x_rd (g := (setG g0 a)) (As := [.ref (a [0]), .int (nI (sNc h)), .int 7]) (w := .int (-1001)) hx hb hml hown (hE a) hS hl.1 cyL_case0 tw712 (fun n1 => ⟨_, _, ⟨by omega, by omega⟩, w_case07_eIO l (setG g0 a) (xD h) I (xFh h) n1 _ _ (nI (sNc h)) trivial (t_X6_daysLeft_c l hst (setG g0 a) h I n1 hC (nI (sNc h)) (Or.inr (Int32.le_refl _)))⟩) (by decide) ⟨by omega, by omega⟩ ⟨by omega, by omega⟩ hG rfl rfl (Nat.le_of_ble_eq_true rfl) dL_law_1386 (fun H locs hG hS => ?_)
  refine lv_sipush (v := (-1001)) hx hb dL_law_1389 (by decide) ?_
  refine lv_icmp_ne (tgt := 1438) hx hb dL_law_1392 (by decide) (fun q_ => absurd (by decide) q_) (fun _ => ?_)
  refine lv_aload_n hx hb dL_law_1395 rfl (lv_at hl 5 rfl) ?_
  refine lv_iload hx hb dL_law_1396 (lv_at hl 2 rfl) ?_
  refine lv_bipush (v := 9) hx hb dL_law_1398 (by decide) ?_
  refine x_rd (g := (setG g0 a)) (As := [.ref (a [0]), .int (nI (sNc h)), .int 9]) (w := .int (-1001)) hx hb hml hown (hE a) hS hl.1 cyL_datum tw760 (fun n1 => ⟨_, _, ⟨by omega, by omega⟩, w_datum_eIO l (setG g0 a) (xD h) I (xFh h) n1 _ _ (nI (sNc h)) 9 trivial (t_X6_datum_c l hst (setG g0 a) h I n1 hC (nI (sNc h)) (Or.inr (Int32.le_refl _)) 9)⟩) (by decide) ⟨by omega, by omega⟩ ⟨by omega, by omega⟩ hG rfl rfl (Nat.le_of_ble_eq_true rfl) dL_law_1400 (fun H locs hG hS => ?_)
  refine lv_sipush (v := (-1001)) hx hb dL_law_1403 (by decide) ?_
  refine lv_icmp_ne (tgt := 1438) hx hb dL_law_1406 (by decide) (fun q_ => absurd (by decide) q_) (fun _ => ?_)
  refine lv_iload hx hb dL_law_1409 (lv_at hl 2 rfl) ?_
  refine lv_if_le (tgt := 1426) hx hb dL_law_1411 (by decide) (fun _ => ?_) (fun q => ?_)
  · exact u_1426 hst hx hb hml hown hE hR hRc fin hL ho hz hL0 hdr (by omega) (by omega) hG hS (lv_sub hl [0, 1, 2, 3, 4, 5, 6] rfl)
  · have hc0 : 0 < sNc h := Decidable.of_not_not (fun z => q ((nI_leI (a := sNc h) (b := 0) (by omega) (by omega)).mpr (by omega)))
    have hj : 0 < sSz h (sPl h 0) := (hn4.2.2.2 0 hc0).2.1
    refine lv_aload_n hx hb dL_law_1414 rfl (lv_at hl 5 rfl) ?_
    refine lv_iconst (v := 0) hx hb dL_law_1415 (by decide) ?_
    refine lv_iconst (v := (-1)) hx hb dL_law_1416 (by decide) ?_
    refine x_rd (g := (setG g0 a)) (As := [.ref (a [0]), .int 0, .int (-1)]) (w := .int (-1002)) hx hb hml hown (hE a) hS hl.1 cyL_datum tw760 (fun n1 => ⟨_, _, ⟨by omega, by omega⟩, w_datum_eIA l (setG g0 a) (xD h) I (xFh h) n1 _ _ (nI 0) (-1) trivial (t_X6_datum_d l hst (setG g0 a) h I n1 hW hC 0 hc0 (-1) (by decide))⟩) (by decide) ⟨by omega, by omega⟩ ⟨by omega, by omega⟩ hG rfl rfl (Nat.le_of_ble_eq_true rfl) dL_law_1417 (fun H locs hG hS => ?_)
    refine lv_sipush (v := (-1002)) hx hb dL_law_1420 (by decide) ?_
    refine lv_icmp_ne (tgt := 1438) hx hb dL_law_1423 (by decide) (fun q_ => absurd (by decide) q_) (fun _ => ?_)
    exact u_1426 hst hx hb hml hown hE hR hRc fin hL ho hz hL0 hdr (by omega) (by omega) hG hS (lv_sub hl [0, 1, 2, 3, 4, 5, 6] rfl)
set_option maxHeartbeats 1000000 in
set_option maxRecDepth 100000 in
theorem u_1362 (hst : l.stackTraces = false) (hx : p.tables.exec = Jvm.exec) (hb : c.code = cL_law) (hml : c.maxLocals = 17) (hown : s.vm.findClass "CasebookStepsLaw" = some m.cls) (hE : ∀ a, xE (setG g0 a) s s.heap) (hR : 12 ≤ R.frames ∧ 300 ≤ R.locals) {C D : Nat} (hRc : C ≤ R.cells ∧ D ≤ R.slots) (fin : ∀ (H : Heap) (locs : List Loc) (ls : Array Slot) (cells slots : Nat), cells ≤ C → slots ≤ D → va_S (gA g0) s.heap H locs → W p l e R s m args below meth c H locs cells slots Q (F0 m 1454 ls [.int 1])) (hL : LW h I jn) (ho : sOw h = 2) (hz : I [40] 0 = 10 ∧ I [40] 1 = 100) {h0 : xS} {I0 : xI} (hL0 : LW h0 I0 jn) (hdr : ∀ (n : Nat) (H : Heap), xG_ (setG g0 a) (xD h) I (xFh h) n H → xG_ (setG g0 a) (xD h0) I0 (xFh h0) 0 H) (hc : cells + 151 ≤ C) (hs : slots + 906 ≤ D) (hG : xG_ (setG g0 a) (xD h) I (xFh h) 0 H) (hS : va_S (gA g0) s.heap H locs) (hl : lv_has ls 17 [(8, .ref (a [41])), (7, .ref (a [40])), (6, .int (nI (sNc h))), (5, .int (nI (sNp h))), (3, .long (fSum h0 I0)), (1, .ref (a [0])), (0, .ref (gSb g0))]) : W p l e R s m args below meth c H locs cells slots Q (F0 m 1362 ls []) := by
  have hts := (hE a).ts args
  have hn4 := hL.n
  have hW := hL.1.1.1
  have hC := hL.1.2.1.1
  have hi8 : ∀ z : 0 < sNc h, (8 : Int32) < 0 ∨ nI (sSz h (sPl h 0)) ≤ (8 : Int32) := fun z => by
    have z2 := (hn4.2.2.2 0 z).2.2
    exact Or.inr ((nI_leI (a := sSz h (sPl h 0)) (b := 8) (by omega) (by omega)).mpr z2)
  have hi9 : ∀ z : 0 < sNp h, (8 : Int32) < 0 ∨ nI (sSz h 0) ≤ (8 : Int32) := fun z => by
    have z2 := hn4.2.2.1 0 z
    exact Or.inr ((nI_leI (a := sSz h 0) (b := 8) (by omega) (by omega)).mpr z2)
  have hi3 : ∀ (z : 0 < sNc h) (j : 0 < sSz h (sPl h 0)), (3 : Int32) < 0 ∨ nI (sCn h (sPl h 0) 0 0) ≤ (3 : Int32) := fun z j => by
    have z2 := (((hW.2.2 _ (hC.2.2 0 z).1).2.2.2 0 j).2.2 0 (by decide)).2.1
    exact Or.inr ((nI_leI (a := sCn h (sPl h 0) 0 0) (b := 3) (by omega) (by omega)).mpr z2)
  refine lv_iload hx hb dL_law_1362 (lv_at hl 2 rfl) ?_
  refine lv_if_le (tgt := 1381) hx hb dL_law_1364 (by decide) (fun _ => ?_) (fun q => ?_)
  · exact u_1381 hst hx hb hml hown hE hR hRc fin hL ho hz hL0 hdr (by omega) (by omega) hG hS (lv_sub hl [0, 1, 2, 3, 4, 5, 6] rfl)
  · have hc0 : 0 < sNc h := Decidable.of_not_not (fun z => q ((nI_leI (a := sNc h) (b := 0) (by omega) (by omega)).mpr (by omega)))
    have hj : 0 < sSz h (sPl h 0) := (hn4.2.2.2 0 hc0).2.1
    refine lv_aload_n hx hb dL_law_1367 rfl (lv_at hl 5 rfl) ?_
    refine lv_iconst (v := 0) hx hb dL_law_1368 (by decide) ?_
    refine lv_iconst (v := 0) hx hb dL_law_1369 (by decide) ?_
    refine lv_iconst (v := 0) hx hb dL_law_1370 (by decide) ?_
    refine lv_iconst (v := (-1)) hx hb dL_law_1371 (by decide) ?_
    refine x_rd (g := (setG g0 a)) (As := [.ref (a [0]), .int 0, .int 0, .int 0, .int (-1)]) (w := .int (-1002)) hx hb hml hown (hE a) hS hl.1 cyL_holds tw686 (fun n1 => ⟨_, _, ⟨by omega, by omega⟩, w_holds_eNS l (setG g0 a) (xD h) I (xFh h) n1 _ _ (nI 0) (nI 0) 0 (-1) trivial (t_X6_holds_n l hst (setG g0 a) h I n1 hW hC 0 hc0 0 hj 1 (by decide) (-1) (Or.inl (by decide)) 0 (Or.inl ⟨rfl, rfl⟩))⟩) (by decide) ⟨by omega, by omega⟩ ⟨by omega, by omega⟩ hG rfl rfl (Nat.le_of_ble_eq_true rfl) dL_law_1372 (fun H locs hG hS => ?_)
    refine lv_sipush (v := (-1002)) hx hb dL_law_1375 (by decide) ?_
    refine lv_icmp_ne (tgt := 1438) hx hb dL_law_1378 (by decide) (fun q_ => absurd (by decide) q_) (fun _ => ?_)
    exact u_1381 hst hx hb hml hown hE hR hRc fin hL ho hz hL0 hdr (by omega) (by omega) hG hS (lv_sub hl [0, 1, 2, 3, 4, 5, 6] rfl)
set_option maxHeartbeats 1000000 in
set_option maxRecDepth 100000 in
theorem u_1190 (hst : l.stackTraces = false) (hx : p.tables.exec = Jvm.exec) (hb : c.code = cL_law) (hml : c.maxLocals = 17) (hown : s.vm.findClass "CasebookStepsLaw" = some m.cls) (hE : ∀ a, xE (setG g0 a) s s.heap) (hR : 12 ≤ R.frames ∧ 300 ≤ R.locals) {C D : Nat} (hRc : C ≤ R.cells ∧ D ≤ R.slots) (fin : ∀ (H : Heap) (locs : List Loc) (ls : Array Slot) (cells slots : Nat), cells ≤ C → slots ≤ D → va_S (gA g0) s.heap H locs → W p l e R s m args below meth c H locs cells slots Q (F0 m 1454 ls [.int 1])) (hL : LW h I jn) (ho : sOw h = 2) (hz : I [40] 0 = 10 ∧ I [40] 1 = 100) {h0 : xS} {I0 : xI} (hL0 : LW h0 I0 jn) (hdr : ∀ (n : Nat) (H : Heap), xG_ (setG g0 a) (xD h) I (xFh h) n H → xG_ (setG g0 a) (xD h0) I0 (xFh h0) 0 H) (hc : cells + 163 ≤ C) (hs : slots + 978 ≤ D) (hG : xG_ (setG g0 a) (xD h) I (xFh h) 0 H) (hS : va_S (gA g0) s.heap H locs) (hl : lv_has ls 17 [(8, .ref (a [41])), (7, .ref (a [40])), (6, .int (nI (sNc h))), (5, .int (nI (sNp h))), (3, .long (fSum h0 I0)), (1, .ref (a [0])), (0, .ref (gSb g0))]) : W p l e R s m args below meth c H locs cells slots Q (F0 m 1190 ls []) := by
  have hts := (hE a).ts args
  have hn4 := hL.n
  have hW := hL.1.1.1
  have hC := hL.1.2.1.1
  have hi8 : ∀ z : 0 < sNc h, (8 : Int32) < 0 ∨ nI (sSz h (sPl h 0)) ≤ (8 : Int32) := fun z => by
    have z2 := (hn4.2.2.2 0 z).2.2
    exact Or.inr ((nI_leI (a := sSz h (sPl h 0)) (b := 8) (by omega) (by omega)).mpr z2)
  have hi9 : ∀ z : 0 < sNp h, (8 : Int32) < 0 ∨ nI (sSz h 0) ≤ (8 : Int32) := fun z => by
    have z2 := hn4.2.2.1 0 z
    exact Or.inr ((nI_leI (a := sSz h 0) (b := 8) (by omega) (by omega)).mpr z2)
  have hi3 : ∀ (z : 0 < sNc h) (j : 0 < sSz h (sPl h 0)), (3 : Int32) < 0 ∨ nI (sCn h (sPl h 0) 0 0) ≤ (3 : Int32) := fun z j => by
    have z2 := (((hW.2.2 _ (hC.2.2 0 z).1).2.2.2 0 j).2.2 0 (by decide)).2.1
    exact Or.inr ((nI_leI (a := sCn h (sPl h 0) 0 0) (b := 3) (by omega) (by omega)).mpr z2)
  refine lv_aload_n hx hb dL_law_1190 rfl (lv_at hl 5 rfl) ?_
  refine lv_iconst (v := (-1)) hx hb dL_law_1191 (by decide) ?_
  refine lv_bipush (v := 101) hx hb dL_law_1192 (by decide) ?_
  refine lv_bipush (v := 10) hx hb dL_law_1194 (by decide) ?_
  refine lv_iconst (v := 0) hx hb dL_law_1196 (by decide) ?_
  refine x_rd (g := (setG g0 a)) (As := [.ref (a [0]), .int (-1), .int 101, .int 10, .int 0]) (w := .int (-1001)) hx hb hml hown (hE a) hS hl.1 cyL_happens tw564 (fun n1 => ⟨_, _, ⟨by omega, by omega⟩, w_happense_eIO l (setG g0 a) (xD h) I (xFh h) n1 _ _ (-1) 10 0 trivial (t_X6_event_c l hst (setG g0 a) h I n1 hC (-1) (Or.inl (by decide)) 10)⟩) (by decide) ⟨by omega, by omega⟩ ⟨by omega, by omega⟩ hG rfl rfl (Nat.le_of_ble_eq_true rfl) dL_law_1197 (fun H locs hG hS => ?_)
  refine lv_sipush (v := (-1001)) hx hb dL_law_1200 (by decide) ?_
  refine lv_icmp_ne (tgt := 1438) hx hb dL_law_1203 (by decide) (fun q_ => absurd (by decide) q_) (fun _ => ?_)
  refine lv_aload_n hx hb dL_law_1206 rfl (lv_at hl 5 rfl) ?_
  refine lv_iload hx hb dL_law_1207 (lv_at hl 2 rfl) ?_
  refine lv_bipush (v := 109) hx hb dL_law_1209 (by decide) ?_
  refine lv_iconst (v := 0) hx hb dL_law_1211 (by decide) ?_
  refine lv_iconst (v := 0) hx hb dL_law_1212 (by decide) ?_
  refine x_rd (g := (setG g0 a)) (As := [.ref (a [0]), .int (nI (sNc h)), .int 109, .int 0, .int 0]) (w := .int (-1001)) hx hb hml hown (hE a) hS hl.1 cyL_happens tw564 (fun n1 => ⟨_, _, ⟨by omega, by omega⟩, w_happensm_eIO l (setG g0 a) (xD h) I (xFh h) n1 _ _ (nI (sNc h)) 0 0 trivial (t_X6_move_c l hst (setG g0 a) h I n1 hC (nI (sNc h)) (Or.inr (Int32.le_refl _)) 0)⟩) (by decide) ⟨by omega, by omega⟩ ⟨by omega, by omega⟩ hG rfl rfl (Nat.le_of_ble_eq_true rfl) dL_law_1213 (fun H locs hG hS => ?_)
  refine lv_sipush (v := (-1001)) hx hb dL_law_1216 (by decide) ?_
  refine lv_icmp_ne (tgt := 1438) hx hb dL_law_1219 (by decide) (fun q_ => absurd (by decide) q_) (fun _ => ?_)
  refine lv_aload_n hx hb dL_law_1222 rfl (lv_at hl 5 rfl) ?_
  refine lv_iconst (v := 0) hx hb dL_law_1223 (by decide) ?_
  refine lv_bipush (v := 109) hx hb dL_law_1224 (by decide) ?_
  refine lv_iload hx hb dL_law_1226 (lv_at hl 3 rfl) ?_
  refine lv_iconst (v := 0) hx hb dL_law_1228 (by decide) ?_
  refine x_rd (g := (setG g0 a)) (As := [.ref (a [0]), .int 0, .int 109, .int (nI (sNp h)), .int 0]) (w := .int (-1001)) hx hb hml hown (hE a) hS hl.1 cyL_happens tw564 (fun n1 => (Nat.eq_zero_or_pos (sNc h)).elim (fun z => ⟨_, _, ⟨by omega, by omega⟩, w_happensm_eIO l (setG g0 a) (xD h) I (xFh h) n1 _ _ (nI 0) (nI (sNp h)) 0 trivial (t_X6_move_c l hst (setG g0 a) h I n1 hC (nI 0) (Or.inr (show nI (sNc h) ≤ nI 0 from (nI_leI (a := sNc h) (b := 0) (by omega) (by omega)).mpr (by omega))) (nI (sNp h)))⟩) (fun z => ⟨_, _, ⟨by omega, by omega⟩, w_happensm_eIO l (setG g0 a) (xD h) I (xFh h) n1 _ _ (nI 0) (nI (sNp h)) 0 trivial (t_X6_move_p l hst (setG g0 a) h I n1 hW hC 0 z (nI (sNp h)) (Or.inr (Int32.le_refl _)))⟩)) (by decide) ⟨by omega, by omega⟩ ⟨by omega, by omega⟩ hG rfl rfl (Nat.le_of_ble_eq_true rfl) dL_law_1229 (fun H locs hG hS => ?_)
  refine lv_sipush (v := (-1001)) hx hb dL_law_1232 (by decide) ?_
  refine lv_icmp_ne (tgt := 1438) hx hb dL_law_1235 (by decide) (fun q_ => absurd (by decide) q_) (fun _ => ?_)
  refine lv_aload_n hx hb dL_law_1238 rfl (lv_at hl 5 rfl) ?_
  refine lv_iload hx hb dL_law_1239 (lv_at hl 2 rfl) ?_
  refine lv_iconst (v := 0) hx hb dL_law_1241 (by decide) ?_
  refine x_rd (g := (setG g0 a)) (As := [.ref (a [0]), .int (nI (sNc h)), .int 0]) (w := .int (-1001)) hx hb hml hown (hE a) hS hl.1 cyL_complete tw604 (fun n1 => ⟨_, _, ⟨by omega, by omega⟩, w_complete_eIO l (setG g0 a) (xD h) I (xFh h) n1 _ _ (nI (sNc h)) 0 trivial (t_X6_complete_c l hst (setG g0 a) h I n1 hC (nI (sNc h)) (Or.inr (Int32.le_refl _)) 0)⟩) (by decide) ⟨by omega, by omega⟩ ⟨by omega, by omega⟩ hG rfl rfl (Nat.le_of_ble_eq_true rfl) dL_law_1242 (fun H locs hG hS => ?_)
  refine lv_sipush (v := (-1001)) hx hb dL_law_1245 (by decide) ?_
  refine lv_icmp_ne (tgt := 1438) hx hb dL_law_1248 (by decide) (fun q_ => absurd (by decide) q_) (fun _ => ?_)
  refine lv_aload_n hx hb dL_law_1251 rfl (lv_at hl 5 rfl) ?_
  refine lv_iconst (v := 0) hx hb dL_law_1252 (by decide) ?_
  refine lv_bipush (v := 8) hx hb dL_law_1253 (by decide) ?_
  refine x_rd (g := (setG g0 a)) (As := [.ref (a [0]), .int 0, .int 8]) (w := .int (-1001)) hx hb hml hown (hE a) hS hl.1 cyL_complete tw604 (fun n1 => (Nat.eq_zero_or_pos (sNc h)).elim (fun z => ⟨_, _, ⟨by omega, by omega⟩, w_complete_eIO l (setG g0 a) (xD h) I (xFh h) n1 _ _ (nI 0) 8 trivial (t_X6_complete_c l hst (setG g0 a) h I n1 hC (nI 0) (Or.inr (show nI (sNc h) ≤ nI 0 from (nI_leI (a := sNc h) (b := 0) (by omega) (by omega)).mpr (by omega))) 8)⟩) (fun z => ⟨_, _, ⟨by omega, by omega⟩, w_complete_eIO l (setG g0 a) (xD h) I (xFh h) n1 _ _ (nI 0) 8 trivial (t_X6_complete_s l hst (setG g0 a) h I n1 hW hC 0 z 8 (hi8 z))⟩)) (by decide) ⟨by omega, by omega⟩ ⟨by omega, by omega⟩ hG rfl rfl (Nat.le_of_ble_eq_true rfl) dL_law_1255 (fun H locs hG hS => ?_)
  refine lv_sipush (v := (-1001)) hx hb dL_law_1258 (by decide) ?_
  refine lv_icmp_ne (tgt := 1438) hx hb dL_law_1261 (by decide) (fun q_ => absurd (by decide) q_) (fun _ => ?_)
  refine lv_aload_n hx hb dL_law_1264 rfl (lv_at hl 5 rfl) ?_
  refine lv_iload hx hb dL_law_1265 (lv_at hl 2 rfl) ?_
  refine lv_iconst (v := 1) hx hb dL_law_1267 (by decide) ?_
  refine x_rd (g := (setG g0 a)) (As := [.ref (a [0]), .int (nI (sNc h)), .int 1]) (w := .int (-1001)) hx hb hml hown (hE a) hS hl.1 cyL_waiting tw613 (fun n1 => ⟨_, _, ⟨by omega, by omega⟩, w_waiting_eIO l (setG g0 a) (xD h) I (xFh h) n1 _ _ (nI (sNc h)) 1 trivial (t_X6_setWaiting_c l hst (setG g0 a) h I n1 hC (nI (sNc h)) (Or.inr (Int32.le_refl _)) 1)⟩) (by decide) ⟨by omega, by omega⟩ ⟨by omega, by omega⟩ hG rfl rfl (Nat.le_of_ble_eq_true rfl) dL_law_1268 (fun H locs hG hS => ?_)
  refine lv_sipush (v := (-1001)) hx hb dL_law_1271 (by decide) ?_
  refine lv_icmp_ne (tgt := 1438) hx hb dL_law_1274 (by decide) (fun q_ => absurd (by decide) q_) (fun _ => ?_)
  refine lv_aload_n hx hb dL_law_1277 rfl (lv_at hl 5 rfl) ?_
  refine lv_iconst (v := 0) hx hb dL_law_1278 (by decide) ?_
  refine x_rd (g := (setG g0 a)) (As := [.ref (a [0]), .int 0]) (w := .int (-1001)) hx hb hml hown (hE a) hS hl.1 cyL_pass tw620 (fun n1 => ⟨_, _, ⟨by omega, by omega⟩, w_pass_eIA l (setG g0 a) (xD h) I (xFh h) n1 _ _ 0 trivial (t_X6_pass_l l hst (setG g0 a) h I n1 0 (by decide))⟩) (by decide) ⟨by omega, by omega⟩ ⟨by omega, by omega⟩ hG rfl rfl (Nat.le_of_ble_eq_true rfl) dL_law_1279 (fun H locs hG hS => ?_)
  refine lv_sipush (v := (-1001)) hx hb dL_law_1282 (by decide) ?_
  refine lv_icmp_ne (tgt := 1438) hx hb dL_law_1285 (by decide) (fun q_ => absurd (by decide) q_) (fun _ => ?_)
  refine lv_aload_n hx hb dL_law_1288 rfl (lv_at hl 5 rfl) ?_
  refine lv_bipush (v := 11) hx hb dL_law_1289 (by decide) ?_
  refine x_rd (g := (setG g0 a)) (As := [.ref (a [0]), .int 11]) (w := .int (-1001)) hx hb hml hown (hE a) hS hl.1 cyL_pass tw620 (fun n1 => ⟨_, _, ⟨by omega, by omega⟩, w_pass_eIA l (setG g0 a) (xD h) I (xFh h) n1 _ _ 11 trivial (t_X6_pass_h l hst (setG g0 a) h I n1 11 (by decide) (by decide))⟩) (by decide) ⟨by omega, by omega⟩ ⟨by omega, by omega⟩ hG rfl rfl (Nat.le_of_ble_eq_true rfl) dL_law_1291 (fun H locs hG hS => ?_)
  refine lv_sipush (v := (-1001)) hx hb dL_law_1294 (by decide) ?_
  refine lv_icmp_ne (tgt := 1438) hx hb dL_law_1297 (by decide) (fun q_ => absurd (by decide) q_) (fun _ => ?_)
  refine lv_aload_n hx hb dL_law_1300 rfl (lv_at hl 5 rfl) ?_
  refine lv_iload hx hb dL_law_1301 (lv_at hl 2 rfl) ?_
  refine lv_iconst (v := 0) hx hb dL_law_1303 (by decide) ?_
  refine lv_iconst (v := 1) hx hb dL_law_1304 (by decide) ?_
  refine x_rd (g := (setG g0 a)) (As := [.ref (a [0]), .int (nI (sNc h)), .int 0, .int 1]) (w := .int (-1001)) hx hb hml hown (hE a) hS hl.1 cyL_at tw644 (fun n1 => ⟨_, _, ⟨by omega, by omega⟩, w_at1_eIO l (setG g0 a) (xD h) I (xFh h) n1 _ _ (nI (sNc h)) 0 trivial (t_X6_stateByReplay_c l hst (setG g0 a) h I n1 hC (nI (sNc h)) (Or.inr (Int32.le_refl _)) 0)⟩) (by decide) ⟨by omega, by omega⟩ ⟨by omega, by omega⟩ hG rfl rfl (Nat.le_of_ble_eq_true rfl) dL_law_1305 (fun H locs hG hS => ?_)
  refine lv_sipush (v := (-1001)) hx hb dL_law_1308 (by decide) ?_
  refine lv_icmp_ne (tgt := 1438) hx hb dL_law_1311 (by decide) (fun q_ => absurd (by decide) q_) (fun _ => ?_)
  refine lv_aload_n hx hb dL_law_1314 rfl (lv_at hl 5 rfl) ?_
  refine lv_iconst (v := 0) hx hb dL_law_1315 (by decide) ?_
  refine lv_bipush (v := 8) hx hb dL_law_1316 (by decide) ?_
  refine lv_iconst (v := 3) hx hb dL_law_1318 (by decide) ?_
  refine x_rd (g := (setG g0 a)) (As := [.ref (a [0]), .int 0, .int 8, .int 3]) (w := .int (-1001)) hx hb hml hown (hE a) hS hl.1 cyL_at tw644 (fun n1 => (Nat.eq_zero_or_pos (sNc h)).elim (fun z => ⟨_, _, ⟨by omega, by omega⟩, w_at3_eIO l (setG g0 a) (xD h) I (xFh h) n1 _ _ (nI 0) 8 trivial (t_X6_clockByReplay_c l hst (setG g0 a) h I n1 hC (nI 0) (Or.inr (show nI (sNc h) ≤ nI 0 from (nI_leI (a := sNc h) (b := 0) (by omega) (by omega)).mpr (by omega))) 8)⟩) (fun z => ⟨_, _, ⟨by omega, by omega⟩, w_at3_eIO l (setG g0 a) (xD h) I (xFh h) n1 _ _ (nI 0) 8 trivial (t_X6_clockByReplay_s l hst (setG g0 a) h I n1 hW hC 0 z 8 (hi8 z))⟩)) (by decide) ⟨by omega, by omega⟩ ⟨by omega, by omega⟩ hG rfl rfl (Nat.le_of_ble_eq_true rfl) dL_law_1319 (fun H locs hG hS => ?_)
  refine lv_sipush (v := (-1001)) hx hb dL_law_1322 (by decide) ?_
  refine lv_icmp_ne (tgt := 1438) hx hb dL_law_1325 (by decide) (fun q_ => absurd (by decide) q_) (fun _ => ?_)
  refine lv_aload_n hx hb dL_law_1328 rfl (lv_at hl 5 rfl) ?_
  refine lv_iload hx hb dL_law_1329 (lv_at hl 2 rfl) ?_
  refine lv_iconst (v := 0) hx hb dL_law_1331 (by decide) ?_
  refine lv_iconst (v := 1) hx hb dL_law_1332 (by decide) ?_
  refine lv_iconst (v := 0) hx hb dL_law_1333 (by decide) ?_
  refine x_rd (g := (setG g0 a)) (As := [.ref (a [0]), .int (nI (sNc h)), .int 0, .int 1, .int 0]) (w := .int (-1001)) hx hb hml hown (hE a) hS hl.1 cyL_holds tw686 (fun n1 => ⟨_, _, ⟨by omega, by omega⟩, w_holds_eIO l (setG g0 a) (xD h) I (xFh h) n1 _ _ (nI (sNc h)) 0 1 0 trivial (t_X6_holds_c l hst (setG g0 a) h I n1 hC (nI (sNc h)) (Or.inr (Int32.le_refl _)) 0 1 0)⟩) (by decide) ⟨by omega, by omega⟩ ⟨by omega, by omega⟩ hG rfl rfl (Nat.le_of_ble_eq_true rfl) dL_law_1334 (fun H locs hG hS => ?_)
  refine lv_sipush (v := (-1001)) hx hb dL_law_1337 (by decide) ?_
  refine lv_icmp_ne (tgt := 1438) hx hb dL_law_1340 (by decide) (fun q_ => absurd (by decide) q_) (fun _ => ?_)
  refine lv_iload hx hb dL_law_1343 (lv_at hl 2 rfl) ?_
  refine lv_if_le (tgt := 1362) hx hb dL_law_1345 (by decide) (fun _ => ?_) (fun q => ?_)
  · exact u_1362 hst hx hb hml hown hE hR hRc fin hL ho hz hL0 hdr (by omega) (by omega) hG hS (lv_sub hl [0, 1, 2, 3, 4, 5, 6] rfl)
  · have hc0 : 0 < sNc h := Decidable.of_not_not (fun z => q ((nI_leI (a := sNc h) (b := 0) (by omega) (by omega)).mpr (by omega)))
    have hj : 0 < sSz h (sPl h 0) := (hn4.2.2.2 0 hc0).2.1
    refine lv_aload_n hx hb dL_law_1348 rfl (lv_at hl 5 rfl) ?_
    refine lv_iconst (v := 0) hx hb dL_law_1349 (by decide) ?_
    refine lv_iconst (v := 0) hx hb dL_law_1350 (by decide) ?_
    refine lv_iconst (v := 1) hx hb dL_law_1351 (by decide) ?_
    refine lv_iconst (v := 3) hx hb dL_law_1352 (by decide) ?_
    refine x_rd (g := (setG g0 a)) (As := [.ref (a [0]), .int 0, .int 0, .int 1, .int 3]) (w := .int (-1002)) hx hb hml hown (hE a) hS hl.1 cyL_holds tw686 (fun n1 => ⟨_, _, ⟨by omega, by omega⟩, w_holds_eNS l (setG g0 a) (xD h) I (xFh h) n1 _ _ (nI 0) (nI 0) 1 3 trivial (t_X6_holds_n l hst (setG g0 a) h I n1 hW hC 0 hc0 0 hj 0 (by decide) 3 (hi3 hc0 hj) 1 (Or.inr ⟨by decide, rfl⟩))⟩) (by decide) ⟨by omega, by omega⟩ ⟨by omega, by omega⟩ hG rfl rfl (Nat.le_of_ble_eq_true rfl) dL_law_1353 (fun H locs hG hS => ?_)
    refine lv_sipush (v := (-1002)) hx hb dL_law_1356 (by decide) ?_
    refine lv_icmp_ne (tgt := 1438) hx hb dL_law_1359 (by decide) (fun q_ => absurd (by decide) q_) (fun _ => ?_)
    exact u_1362 hst hx hb hml hown hE hR hRc fin hL ho hz hL0 hdr (by omega) (by omega) hG hS (lv_sub hl [0, 1, 2, 3, 4, 5, 6] rfl)
set_option maxHeartbeats 1000000 in
set_option maxRecDepth 100000 in
theorem u_1169 (hst : l.stackTraces = false) (hx : p.tables.exec = Jvm.exec) (hb : c.code = cL_law) (hml : c.maxLocals = 17) (hown : s.vm.findClass "CasebookStepsLaw" = some m.cls) (hE : ∀ a, xE (setG g0 a) s s.heap) (hR : 12 ≤ R.frames ∧ 300 ≤ R.locals) {C D : Nat} (hRc : C ≤ R.cells ∧ D ≤ R.slots) (fin : ∀ (H : Heap) (locs : List Loc) (ls : Array Slot) (cells slots : Nat), cells ≤ C → slots ≤ D → va_S (gA g0) s.heap H locs → W p l e R s m args below meth c H locs cells slots Q (F0 m 1454 ls [.int 1])) (hL : LW h I jn) (ho : sOw h = 2) (hz : I [40] 0 = 10 ∧ I [40] 1 = 100) {h0 : xS} {I0 : xI} (hL0 : LW h0 I0 jn) (hdr : ∀ (n : Nat) (H : Heap), xG_ (setG g0 a) (xD h) I (xFh h) n H → xG_ (setG g0 a) (xD h0) I0 (xFh h0) 0 H) (hc : cells + 164 ≤ C) (hs : slots + 984 ≤ D) (hG : xG_ (setG g0 a) (xD h) I (xFh h) 0 H) (hS : va_S (gA g0) s.heap H locs) (hl : lv_has ls 17 [(8, .ref (a [41])), (7, .ref (a [40])), (6, .int (nI (sNc h))), (5, .int (nI (sNp h))), (3, .long (fSum h0 I0)), (1, .ref (a [0])), (0, .ref (gSb g0))]) : W p l e R s m args below meth c H locs cells slots Q (F0 m 1169 ls []) := by
  have hts := (hE a).ts args
  have hn4 := hL.n
  have hW := hL.1.1.1
  have hC := hL.1.2.1.1
  have hi8 : ∀ z : 0 < sNc h, (8 : Int32) < 0 ∨ nI (sSz h (sPl h 0)) ≤ (8 : Int32) := fun z => by
    have z2 := (hn4.2.2.2 0 z).2.2
    exact Or.inr ((nI_leI (a := sSz h (sPl h 0)) (b := 8) (by omega) (by omega)).mpr z2)
  have hi9 : ∀ z : 0 < sNp h, (8 : Int32) < 0 ∨ nI (sSz h 0) ≤ (8 : Int32) := fun z => by
    have z2 := hn4.2.2.1 0 z
    exact Or.inr ((nI_leI (a := sSz h 0) (b := 8) (by omega) (by omega)).mpr z2)
  have hi3 : ∀ (z : 0 < sNc h) (j : 0 < sSz h (sPl h 0)), (3 : Int32) < 0 ∨ nI (sCn h (sPl h 0) 0 0) ≤ (3 : Int32) := fun z j => by
    have z2 := (((hW.2.2 _ (hC.2.2 0 z).1).2.2.2 0 j).2.2 0 (by decide)).2.1
    exact Or.inr ((nI_leI (a := sCn h (sPl h 0) 0 0) (b := 3) (by omega) (by omega)).mpr z2)
  refine lv_iload hx hb dL_law_1169 (lv_at hl 2 rfl) ?_
  refine lv_if_le (tgt := 1190) hx hb dL_law_1171 (by decide) (fun _ => ?_) (fun q => ?_)
  · exact u_1190 hst hx hb hml hown hE hR hRc fin hL ho hz hL0 hdr (by omega) (by omega) hG hS (lv_sub hl [0, 1, 2, 3, 4, 5, 6] rfl)
  · have hc0 : 0 < sNc h := Decidable.of_not_not (fun z => q ((nI_leI (a := sNc h) (b := 0) (by omega) (by omega)).mpr (by omega)))
    have hj : 0 < sSz h (sPl h 0) := (hn4.2.2.2 0 hc0).2.1
    refine lv_aload_n hx hb dL_law_1174 rfl (lv_at hl 5 rfl) ?_
    refine lv_iconst (v := 0) hx hb dL_law_1175 (by decide) ?_
    refine lv_bipush (v := 101) hx hb dL_law_1176 (by decide) ?_
    refine lv_bipush (v := 10) hx hb dL_law_1178 (by decide) ?_
    refine lv_iconst (v := 0) hx hb dL_law_1180 (by decide) ?_
    refine x_rd (g := (setG g0 a)) (As := [.ref (a [0]), .int 0, .int 101, .int 10, .int 0]) (w := .int (-1002)) hx hb hml hown (hE a) hS hl.1 cyL_happens tw564 (fun n1 => ⟨_, _, ⟨by omega, by omega⟩, w_happense_eIA l (setG g0 a) (xD h) I (xFh h) n1 _ _ (nI 0) 10 0 trivial (t_X6_event_e l hst (setG g0 a) h I n1 hW hC 0 hc0 10 (by decide))⟩) (by decide) ⟨by omega, by omega⟩ ⟨by omega, by omega⟩ hG rfl rfl (Nat.le_of_ble_eq_true rfl) dL_law_1181 (fun H locs hG hS => ?_)
    refine lv_sipush (v := (-1002)) hx hb dL_law_1184 (by decide) ?_
    refine lv_icmp_ne (tgt := 1438) hx hb dL_law_1187 (by decide) (fun q_ => absurd (by decide) q_) (fun _ => ?_)
    exact u_1190 hst hx hb hml hown hE hR hRc fin hL ho hz hL0 hdr (by omega) (by omega) hG hS (lv_sub hl [0, 1, 2, 3, 4, 5, 6] rfl)
set_option maxHeartbeats 1000000 in
set_option maxRecDepth 100000 in
theorem u_1148 (hst : l.stackTraces = false) (hx : p.tables.exec = Jvm.exec) (hb : c.code = cL_law) (hml : c.maxLocals = 17) (hown : s.vm.findClass "CasebookStepsLaw" = some m.cls) (hE : ∀ a, xE (setG g0 a) s s.heap) (hR : 12 ≤ R.frames ∧ 300 ≤ R.locals) {C D : Nat} (hRc : C ≤ R.cells ∧ D ≤ R.slots) (fin : ∀ (H : Heap) (locs : List Loc) (ls : Array Slot) (cells slots : Nat), cells ≤ C → slots ≤ D → va_S (gA g0) s.heap H locs → W p l e R s m args below meth c H locs cells slots Q (F0 m 1454 ls [.int 1])) (hL : LW h I jn) (ho : sOw h = 2) (hz : I [40] 0 = 10 ∧ I [40] 1 = 100) {h0 : xS} {I0 : xI} (hL0 : LW h0 I0 jn) (hdr : ∀ (n : Nat) (H : Heap), xG_ (setG g0 a) (xD h) I (xFh h) n H → xG_ (setG g0 a) (xD h0) I0 (xFh h0) 0 H) (hc : cells + 165 ≤ C) (hs : slots + 990 ≤ D) (hG : xG_ (setG g0 a) (xD h) I (xFh h) 0 H) (hS : va_S (gA g0) s.heap H locs) (hl : lv_has ls 17 [(8, .ref (a [41])), (7, .ref (a [40])), (6, .int (nI (sNc h))), (5, .int (nI (sNp h))), (3, .long (fSum h0 I0)), (1, .ref (a [0])), (0, .ref (gSb g0))]) : W p l e R s m args below meth c H locs cells slots Q (F0 m 1148 ls []) := by
  have hts := (hE a).ts args
  have hn4 := hL.n
  have hW := hL.1.1.1
  have hC := hL.1.2.1.1
  have hi8 : ∀ z : 0 < sNc h, (8 : Int32) < 0 ∨ nI (sSz h (sPl h 0)) ≤ (8 : Int32) := fun z => by
    have z2 := (hn4.2.2.2 0 z).2.2
    exact Or.inr ((nI_leI (a := sSz h (sPl h 0)) (b := 8) (by omega) (by omega)).mpr z2)
  have hi9 : ∀ z : 0 < sNp h, (8 : Int32) < 0 ∨ nI (sSz h 0) ≤ (8 : Int32) := fun z => by
    have z2 := hn4.2.2.1 0 z
    exact Or.inr ((nI_leI (a := sSz h 0) (b := 8) (by omega) (by omega)).mpr z2)
  have hi3 : ∀ (z : 0 < sNc h) (j : 0 < sSz h (sPl h 0)), (3 : Int32) < 0 ∨ nI (sCn h (sPl h 0) 0 0) ≤ (3 : Int32) := fun z j => by
    have z2 := (((hW.2.2 _ (hC.2.2 0 z).1).2.2.2 0 j).2.2 0 (by decide)).2.1
    exact Or.inr ((nI_leI (a := sCn h (sPl h 0) 0 0) (b := 3) (by omega) (by omega)).mpr z2)
  refine lv_iload hx hb dL_law_1148 (lv_at hl 2 rfl) ?_
  refine lv_if_le (tgt := 1169) hx hb dL_law_1150 (by decide) (fun _ => ?_) (fun q => ?_)
  · exact u_1169 hst hx hb hml hown hE hR hRc fin hL ho hz hL0 hdr (by omega) (by omega) hG hS (lv_sub hl [0, 1, 2, 3, 4, 5, 6] rfl)
  · have hc0 : 0 < sNc h := Decidable.of_not_not (fun z => q ((nI_leI (a := sNc h) (b := 0) (by omega) (by omega)).mpr (by omega)))
    have hj : 0 < sSz h (sPl h 0) := (hn4.2.2.2 0 hc0).2.1
    refine lv_aload_n hx hb dL_law_1153 rfl (lv_at hl 5 rfl) ?_
    refine lv_iconst (v := 0) hx hb dL_law_1154 (by decide) ?_
    refine lv_bipush (v := 100) hx hb dL_law_1155 (by decide) ?_
    refine lv_iconst (v := 0) hx hb dL_law_1157 (by decide) ?_
    refine lv_bipush (v := 100) hx hb dL_law_1158 (by decide) ?_
    refine x_rd (g := (setG g0 a)) (As := [.ref (a [0]), .int 0, .int 100, .int 0, .int 100]) (w := .int (-1002)) hx hb hml hown (hE a) hS hl.1 cyL_happens tw564 (fun n1 => ⟨_, _, ⟨by omega, by omega⟩, w_happensd_eIA l (setG g0 a) (xD h) I (xFh h) n1 _ _ (nI 0) (nI 0) 100 trivial (t_X6_set_v l hst (setG g0 a) h I n1 hW hC 0 hc0 0 (by decide) 100 (by decide))⟩) (by decide) ⟨by omega, by omega⟩ ⟨by omega, by omega⟩ hG rfl rfl (Nat.le_of_ble_eq_true rfl) dL_law_1160 (fun H locs hG hS => ?_)
    refine lv_sipush (v := (-1002)) hx hb dL_law_1163 (by decide) ?_
    refine lv_icmp_ne (tgt := 1438) hx hb dL_law_1166 (by decide) (fun q_ => absurd (by decide) q_) (fun _ => ?_)
    exact u_1169 hst hx hb hml hown hE hR hRc fin hL ho hz hL0 hdr (by omega) (by omega) hG hS (lv_sub hl [0, 1, 2, 3, 4, 5, 6] rfl)
set_option maxHeartbeats 1000000 in
set_option maxRecDepth 100000 in
theorem u_1111 (hst : l.stackTraces = false) (hx : p.tables.exec = Jvm.exec) (hb : c.code = cL_law) (hml : c.maxLocals = 17) (hown : s.vm.findClass "CasebookStepsLaw" = some m.cls) (hE : ∀ a, xE (setG g0 a) s s.heap) (hR : 12 ≤ R.frames ∧ 300 ≤ R.locals) {C D : Nat} (hRc : C ≤ R.cells ∧ D ≤ R.slots) (fin : ∀ (H : Heap) (locs : List Loc) (ls : Array Slot) (cells slots : Nat), cells ≤ C → slots ≤ D → va_S (gA g0) s.heap H locs → W p l e R s m args below meth c H locs cells slots Q (F0 m 1454 ls [.int 1])) (hL : LW h I jn) (ho : sOw h = 2) (hz : I [40] 0 = 10 ∧ I [40] 1 = 100) {h0 : xS} {I0 : xI} (hL0 : LW h0 I0 jn) (hdr : ∀ (n : Nat) (H : Heap), xG_ (setG g0 a) (xD h) I (xFh h) n H → xG_ (setG g0 a) (xD h0) I0 (xFh h0) 0 H) (hc : cells + 167 ≤ C) (hs : slots + 1002 ≤ D) (hG : xG_ (setG g0 a) (xD h) I (xFh h) 0 H) (hS : va_S (gA g0) s.heap H locs) (hl : lv_has ls 17 [(8, .ref (a [41])), (7, .ref (a [40])), (6, .int (nI (sNc h))), (5, .int (nI (sNp h))), (3, .long (fSum h0 I0)), (1, .ref (a [0])), (0, .ref (gSb g0))]) : W p l e R s m args below meth c H locs cells slots Q (F0 m 1111 ls []) := by
  have hts := (hE a).ts args
  have hn4 := hL.n
  have hW := hL.1.1.1
  have hC := hL.1.2.1.1
  have hi8 : ∀ z : 0 < sNc h, (8 : Int32) < 0 ∨ nI (sSz h (sPl h 0)) ≤ (8 : Int32) := fun z => by
    have z2 := (hn4.2.2.2 0 z).2.2
    exact Or.inr ((nI_leI (a := sSz h (sPl h 0)) (b := 8) (by omega) (by omega)).mpr z2)
  have hi9 : ∀ z : 0 < sNp h, (8 : Int32) < 0 ∨ nI (sSz h 0) ≤ (8 : Int32) := fun z => by
    have z2 := hn4.2.2.1 0 z
    exact Or.inr ((nI_leI (a := sSz h 0) (b := 8) (by omega) (by omega)).mpr z2)
  have hi3 : ∀ (z : 0 < sNc h) (j : 0 < sSz h (sPl h 0)), (3 : Int32) < 0 ∨ nI (sCn h (sPl h 0) 0 0) ≤ (3 : Int32) := fun z j => by
    have z2 := (((hW.2.2 _ (hC.2.2 0 z).1).2.2.2 0 j).2.2 0 (by decide)).2.1
    exact Or.inr ((nI_leI (a := sCn h (sPl h 0) 0 0) (b := 3) (by omega) (by omega)).mpr z2)
  refine lv_aload_n hx hb dL_law_1111 rfl (lv_at hl 5 rfl) ?_
  refine lv_iload hx hb dL_law_1112 (lv_at hl 2 rfl) ?_
  refine lv_bipush (v := 100) hx hb dL_law_1114 (by decide) ?_
  refine lv_bipush (v := 9) hx hb dL_law_1116 (by decide) ?_
  refine lv_iconst (v := 0) hx hb dL_law_1118 (by decide) ?_
  refine x_rd (g := (setG g0 a)) (As := [.ref (a [0]), .int (nI (sNc h)), .int 100, .int 9, .int 0]) (w := .int (-1001)) hx hb hml hown (hE a) hS hl.1 cyL_happens tw564 (fun n1 => ⟨_, _, ⟨by omega, by omega⟩, w_happensd_eIO l (setG g0 a) (xD h) I (xFh h) n1 _ _ (nI (sNc h)) 9 0 trivial (t_X6_set_c l hst (setG g0 a) h I n1 hC (nI (sNc h)) (Or.inr (Int32.le_refl _)) 9 0)⟩) (by decide) ⟨by omega, by omega⟩ ⟨by omega, by omega⟩ hG rfl rfl (Nat.le_of_ble_eq_true rfl) dL_law_1119 (fun H locs hG hS => ?_)
  refine lv_sipush (v := (-1001)) hx hb dL_law_1122 (by decide) ?_
  refine lv_icmp_ne (tgt := 1438) hx hb dL_law_1125 (by decide) (fun q_ => absurd (by decide) q_) (fun _ => ?_)
  refine lv_iload hx hb dL_law_1128 (lv_at hl 2 rfl) ?_
  refine lv_if_le (tgt := 1148) hx hb dL_law_1130 (by decide) (fun _ => ?_) (fun q => ?_)
  · exact u_1148 hst hx hb hml hown hE hR hRc fin hL ho hz hL0 hdr (by omega) (by omega) hG hS (lv_sub hl [0, 1, 2, 3, 4, 5, 6] rfl)
  · have hc0 : 0 < sNc h := Decidable.of_not_not (fun z => q ((nI_leI (a := sNc h) (b := 0) (by omega) (by omega)).mpr (by omega)))
    have hj : 0 < sSz h (sPl h 0) := (hn4.2.2.2 0 hc0).2.1
    refine lv_aload_n hx hb dL_law_1133 rfl (lv_at hl 5 rfl) ?_
    refine lv_iconst (v := 0) hx hb dL_law_1134 (by decide) ?_
    refine lv_bipush (v := 100) hx hb dL_law_1135 (by decide) ?_
    refine lv_iconst (v := 4) hx hb dL_law_1137 (by decide) ?_
    refine lv_iconst (v := 0) hx hb dL_law_1138 (by decide) ?_
    refine x_rd (g := (setG g0 a)) (As := [.ref (a [0]), .int 0, .int 100, .int 4, .int 0]) (w := .int (-1002)) hx hb hml hown (hE a) hS hl.1 cyL_happens tw564 (fun n1 => ⟨_, _, ⟨by omega, by omega⟩, w_happensd_eIA l (setG g0 a) (xD h) I (xFh h) n1 _ _ (nI 0) 4 0 trivial (t_X6_set_d l hst (setG g0 a) h I n1 hW hC 0 hc0 4 0 (by decide))⟩) (by decide) ⟨by omega, by omega⟩ ⟨by omega, by omega⟩ hG rfl rfl (Nat.le_of_ble_eq_true rfl) dL_law_1139 (fun H locs hG hS => ?_)
    refine lv_sipush (v := (-1002)) hx hb dL_law_1142 (by decide) ?_
    refine lv_icmp_ne (tgt := 1438) hx hb dL_law_1145 (by decide) (fun q_ => absurd (by decide) q_) (fun _ => ?_)
    exact u_1148 hst hx hb hml hown hE hR hRc fin hL ho hz hL0 hdr (by omega) (by omega) hG hS (lv_sub hl [0, 1, 2, 3, 4, 5, 6] rfl)
set_option maxHeartbeats 1000000 in
set_option maxRecDepth 100000 in
theorem u_926 (hst : l.stackTraces = false) (hx : p.tables.exec = Jvm.exec) (hb : c.code = cL_law) (hml : c.maxLocals = 17) (hown : s.vm.findClass "CasebookStepsLaw" = some m.cls) (hE : ∀ a, xE (setG g0 a) s s.heap) (hR : 12 ≤ R.frames ∧ 300 ≤ R.locals) {C D : Nat} (hRc : C ≤ R.cells ∧ D ≤ R.slots) (fin : ∀ (H : Heap) (locs : List Loc) (ls : Array Slot) (cells slots : Nat), cells ≤ C → slots ≤ D → va_S (gA g0) s.heap H locs → W p l e R s m args below meth c H locs cells slots Q (F0 m 1454 ls [.int 1])) (hL : LW h I jn) (ho : sOw h = 2) (hz : I [40] 0 = 10 ∧ I [40] 1 = 100) {h0 : xS} {I0 : xI} (hL0 : LW h0 I0 jn) (hdr : ∀ (n : Nat) (H : Heap), xG_ (setG g0 a) (xD h) I (xFh h) n H → xG_ (setG g0 a) (xD h0) I0 (xFh h0) 0 H) (hc : cells + 179 ≤ C) (hs : slots + 1074 ≤ D) (hG : xG_ (setG g0 a) (xD h) I (xFh h) 0 H) (hS : va_S (gA g0) s.heap H locs) (hl : lv_has ls 17 [(8, .ref (a [41])), (7, .ref (a [40])), (6, .int (nI (sNc h))), (5, .int (nI (sNp h))), (3, .long (fSum h0 I0)), (1, .ref (a [0])), (0, .ref (gSb g0))]) : W p l e R s m args below meth c H locs cells slots Q (F0 m 926 ls []) := by
  have hts := (hE a).ts args
  have hn4 := hL.n
  have hW := hL.1.1.1
  have hC := hL.1.2.1.1
  have hi8 : ∀ z : 0 < sNc h, (8 : Int32) < 0 ∨ nI (sSz h (sPl h 0)) ≤ (8 : Int32) := fun z => by
    have z2 := (hn4.2.2.2 0 z).2.2
    exact Or.inr ((nI_leI (a := sSz h (sPl h 0)) (b := 8) (by omega) (by omega)).mpr z2)
  have hi9 : ∀ z : 0 < sNp h, (8 : Int32) < 0 ∨ nI (sSz h 0) ≤ (8 : Int32) := fun z => by
    have z2 := hn4.2.2.1 0 z
    exact Or.inr ((nI_leI (a := sSz h 0) (b := 8) (by omega) (by omega)).mpr z2)
  have hi3 : ∀ (z : 0 < sNc h) (j : 0 < sSz h (sPl h 0)), (3 : Int32) < 0 ∨ nI (sCn h (sPl h 0) 0 0) ≤ (3 : Int32) := fun z j => by
    have z2 := (((hW.2.2 _ (hC.2.2 0 z).1).2.2.2 0 j).2.2 0 (by decide)).2.1
    exact Or.inr ((nI_leI (a := sCn h (sPl h 0) 0 0) (b := 3) (by omega) (by omega)).mpr z2)
  refine lv_aload_n hx hb dL_law_926 rfl (lv_at hl 5 rfl) ?_
  refine lv_iload hx hb dL_law_927 (lv_at hl 3 rfl) ?_
  refine lv_iconst (v := 0) hx hb dL_law_929 (by decide) ?_
  refine lv_iconst (v := 1) hx hb dL_law_930 (by decide) ?_
  refine lv_bipush (v := 120) hx hb dL_law_931 (by decide) ?_
  refine lv_aload hx hb dL_law_933 (lv_at hl 1 rfl) ?_
  refine x_rd (g := (setG g0 a)) (As := [.ref (a [0]), .int (nI (sNp h)), .int 0, .int 1, .int 120, .ref (a [40])]) (w := .int (-1001)) hx hb hml hown (hE a) hS hl.1 cyL_condition tw364 (fun n1 => ⟨_, _, ⟨by omega, by omega⟩, w_condition1_eIO l (setG g0 a) (xD h) I (xFh h) n1 _ _ (nI (sNp h)) 0 120 trivial [40] (show 1 ≤ sOw h by omega) rfl (t_X6_addEntry_p l hst (setG g0 a) h I n1 hW (nI (sNp h)) (Or.inr (Int32.le_refl _)) 0 120 _ _)⟩) (by decide) ⟨by omega, by omega⟩ ⟨by omega, by omega⟩ hG rfl rfl (Nat.le_of_ble_eq_true rfl) dL_law_935 (fun H locs hG hS => ?_)
  refine lv_sipush (v := (-1001)) hx hb dL_law_938 (by decide) ?_
  refine lv_icmp_ne (tgt := 1028) hx hb dL_law_941 (by decide) (fun q_ => absurd (by decide) q_) (fun _ => ?_)
  refine lv_aload_n hx hb dL_law_944 rfl (lv_at hl 5 rfl) ?_
  refine lv_iconst (v := 0) hx hb dL_law_945 (by decide) ?_
  refine lv_bipush (v := 8) hx hb dL_law_946 (by decide) ?_
  refine lv_iconst (v := 0) hx hb dL_law_948 (by decide) ?_
  refine lv_bipush (v := 101) hx hb dL_law_949 (by decide) ?_
  refine lv_aload hx hb dL_law_951 (lv_at hl 0 rfl) ?_
  refine x_rd (g := (setG g0 a)) (As := [.ref (a [0]), .int 0, .int 8, .int 0, .int 101, .ref (a [41])]) (w := .int (-1001)) hx hb hml hown (hE a) hS hl.1 cyL_condition tw364 (fun n1 => (Nat.eq_zero_or_pos (sNp h)).elim (fun z => ⟨_, _, ⟨by omega, by omega⟩, w_condition0_eIO l (setG g0 a) (xD h) I (xFh h) n1 _ _ (nI 0) 8 101 trivial [41] (show 2 ≤ sOw h by omega) rfl (t_X6_addExit_p l hst (setG g0 a) h I n1 hW (nI 0) (Or.inr (show nI (sNp h) ≤ nI 0 from (nI_leI (a := sNp h) (b := 0) (by omega) (by omega)).mpr (by omega))) 8 101 _ _)⟩) (fun z => ⟨_, _, ⟨by omega, by omega⟩, w_condition0_eIO l (setG g0 a) (xD h) I (xFh h) n1 _ _ (nI 0) 8 101 trivial [41] (show 2 ≤ sOw h by omega) rfl (t_X6_addExit_s l hst (setG g0 a) h I n1 hW 0 z 8 (hi9 z) 101 _ _)⟩)) (by decide) ⟨by omega, by omega⟩ ⟨by omega, by omega⟩ hG rfl rfl (Nat.le_of_ble_eq_true rfl) dL_law_953 (fun H locs hG hS => ?_)
  refine lv_sipush (v := (-1001)) hx hb dL_law_956 (by decide) ?_
  refine lv_icmp_ne (tgt := 1028) hx hb dL_law_959 (by decide) (fun q_ => absurd (by decide) q_) (fun _ => ?_)
  refine lv_aload_n hx hb dL_law_962 rfl (lv_at hl 5 rfl) ?_
  refine lv_iload hx hb dL_law_963 (lv_at hl 3 rfl) ?_
  refine lv_iconst (v := 0) hx hb dL_law_965 (by decide) ?_
  refine lv_bipush (v := 116) hx hb dL_law_966 (by decide) ?_
  refine lv_iconst (v := 1) hx hb dL_law_968 (by decide) ?_
  refine x_rd (g := (setG g0 a)) (As := [.ref (a [0]), .int (nI (sNp h)), .int 0, .int 116, .int 1]) (w := .int (-1001)) hx hb hml hown (hE a) hS hl.1 cyL_flag tw440 (fun n1 => ⟨_, _, ⟨by omega, by omega⟩, w_flagt_eIO l (setG g0 a) (xD h) I (xFh h) n1 _ _ (nI (sNp h)) 0 1 trivial (t_X6_setRequired_p l hst (setG g0 a) h I n1 hW (nI (sNp h)) (Or.inr (Int32.le_refl _)) 0 1)⟩) (by decide) ⟨by omega, by omega⟩ ⟨by omega, by omega⟩ hG rfl rfl (Nat.le_of_ble_eq_true rfl) dL_law_969 (fun H locs hG hS => ?_)
  refine lv_sipush (v := (-1001)) hx hb dL_law_972 (by decide) ?_
  refine lv_icmp_ne (tgt := 1028) hx hb dL_law_975 (by decide) (fun q_ => absurd (by decide) q_) (fun _ => ?_)
  refine lv_aload_n hx hb dL_law_978 rfl (lv_at hl 5 rfl) ?_
  refine lv_iconst (v := 0) hx hb dL_law_979 (by decide) ?_
  refine lv_bipush (v := 8) hx hb dL_law_980 (by decide) ?_
  refine lv_iconst (v := 0) hx hb dL_law_982 (by decide) ?_
  refine x_rd (g := (setG g0 a)) (As := [.ref (a [0]), .int 0, .int 8, .int 0]) (w := .int (-1001)) hx hb hml hown (hE a) hS hl.1 cyL_limit tw456 (fun n1 => (Nat.eq_zero_or_pos (sNp h)).elim (fun z => ⟨_, _, ⟨by omega, by omega⟩, w_limit_eIO l (setG g0 a) (xD h) I (xFh h) n1 _ _ (nI 0) 8 0 trivial (t_X6_setLimit_p l hst (setG g0 a) h I n1 hW (nI 0) (Or.inr (show nI (sNp h) ≤ nI 0 from (nI_leI (a := sNp h) (b := 0) (by omega) (by omega)).mpr (by omega))) 8 0)⟩) (fun z => ⟨_, _, ⟨by omega, by omega⟩, w_limit_eIO l (setG g0 a) (xD h) I (xFh h) n1 _ _ (nI 0) 8 0 trivial (t_X6_setLimit_s l hst (setG g0 a) h I n1 hW 0 z 8 (hi9 z) 0)⟩)) (by decide) ⟨by omega, by omega⟩ ⟨by omega, by omega⟩ hG rfl rfl (Nat.le_of_ble_eq_true rfl) dL_law_983 (fun H locs hG hS => ?_)
  refine lv_sipush (v := (-1001)) hx hb dL_law_986 (by decide) ?_
  refine lv_icmp_ne (tgt := 1028) hx hb dL_law_989 (by decide) (fun q_ => absurd (by decide) q_) (fun _ => ?_)
  refine lv_aload_n hx hb dL_law_992 rfl (lv_at hl 5 rfl) ?_
  refine lv_iload hx hb dL_law_993 (lv_at hl 3 rfl) ?_
  refine lv_iconst (v := 1) hx hb dL_law_995 (by decide) ?_
  refine x_rd (g := (setG g0 a)) (As := [.ref (a [0]), .int (nI (sNp h)), .int 1]) (w := .int (-1001)) hx hb hml hown (hE a) hS hl.1 cyL_of tw464 (fun n1 => ⟨_, _, ⟨by omega, by omega⟩, w_of1_eIO l (setG g0 a) (xD h) I (xFh h) n1 _ _ (nI (sNp h)) trivial (t_X6_isUsed_p l hst (setG g0 a) h I n1 hW (nI (sNp h)) (Or.inr (Int32.le_refl _)))⟩) (by decide) ⟨by omega, by omega⟩ ⟨by omega, by omega⟩ hG rfl rfl (Nat.le_of_ble_eq_true rfl) dL_law_996 (fun H locs hG hS => ?_)
  refine lv_sipush (v := (-1001)) hx hb dL_law_999 (by decide) ?_
  refine lv_icmp_ne (tgt := 1028) hx hb dL_law_1002 (by decide) (fun q_ => absurd (by decide) q_) (fun _ => ?_)
  refine lv_aload_n hx hb dL_law_1005 rfl (lv_at hl 5 rfl) ?_
  refine lv_iload hx hb dL_law_1006 (lv_at hl 3 rfl) ?_
  refine x_rd (g := (setG g0 a)) (As := [.ref (a [0]), .int (nI (sNp h))]) (w := .int (-1001)) hx hb hml hown (hE a) hS hl.1 cyL_begin tw475 (fun n1 => ⟨_, _, ⟨by omega, by omega⟩, w_begin_eIO l (setG g0 a) (xD h) I (xFh h) n1 _ _ (nI (sNp h)) trivial (t_X6_begin_p l hst (setG g0 a) h I n1 hW (nI (sNp h)) (Or.inr (Int32.le_refl _)))⟩) (by decide) ⟨by omega, by omega⟩ ⟨by omega, by omega⟩ hG rfl rfl (Nat.le_of_ble_eq_true rfl) dL_law_1008 (fun H locs hG hS => ?_)
  refine lv_sipush (v := (-1001)) hx hb dL_law_1011 (by decide) ?_
  refine lv_icmp_ne (tgt := 1028) hx hb dL_law_1014 (by decide) (fun q_ => absurd (by decide) q_) (fun _ => ?_)
  refine lv_aload_n hx hb dL_law_1017 rfl (lv_at hl 5 rfl) ?_
  refine lv_iconst (v := (-1)) hx hb dL_law_1018 (by decide) ?_
  refine x_rd (g := (setG g0 a)) (As := [.ref (a [0]), .int (-1)]) (w := .int (-1001)) hx hb hml hown (hE a) hS hl.1 cyL_begin tw475 (fun n1 => ⟨_, _, ⟨by omega, by omega⟩, w_begin_eIO l (setG g0 a) (xD h) I (xFh h) n1 _ _ (-1) trivial (t_X6_begin_p l hst (setG g0 a) h I n1 hW (-1) (Or.inl (by decide)))⟩) (by decide) ⟨by omega, by omega⟩ ⟨by omega, by omega⟩ hG rfl rfl (Nat.le_of_ble_eq_true rfl) dL_law_1019 (fun H locs hG hS => ?_)
  refine lv_sipush (v := (-1001)) hx hb dL_law_1022 (by decide) ?_
  refine lv_icmp_eq (tgt := 1030) hx hb dL_law_1025 (by decide) (fun _ => ?_) (fun q_ => absurd (by decide) q_)
  refine lv_iload hx hb dL_law_1030 (lv_at hl 3 rfl) ?_
  refine lv_if_le (tgt := 1111) hx hb dL_law_1032 (by decide) (fun _ => ?_) (fun q => ?_)
  · exact u_1111 hst hx hb hml hown hE hR hRc fin hL ho hz hL0 hdr (by omega) (by omega) hG hS (lv_sub hl [0, 1, 2, 3, 4, 5, 6] rfl)
  · have hp : 0 < sNp h := Decidable.of_not_not (fun z => q ((nI_leI (a := sNp h) (b := 0) (by omega) (by omega)).mpr (by omega)))
    have hsz := hn4.2.2.1 0 hp
    refine lv_aload_n hx hb dL_law_1035 rfl (lv_at hl 5 rfl) ?_
    refine lv_iconst (v := 0) hx hb dL_law_1036 (by decide) ?_
    refine lv_iconst (v := 0) hx hb dL_law_1037 (by decide) ?_
    refine x_rd (g := (setG g0 a)) (As := [.ref (a [0]), .int 0, .int 0]) (w := .int (vOf h I 0 0)) hx hb hml hown (hE a) hS hl.1 cyL_of tw464 (fun n1 => r_of0 hst (setG g0 a) n1 hL 0 (by omega)) (by decide) ⟨by omega, by omega⟩ ⟨by omega, by omega⟩ hG rfl rfl (Nat.le_of_ble_eq_true rfl) dL_law_1038 (fun H locs hG hS => ?_)
    refine lv_if_le (tgt := 1111) hx hb dL_law_1041 (by decide) (fun _ => ?_) (fun q => ?_)
    · exact u_1111 hst hx hb hml hown hE hR hRc fin hL ho hz hL0 hdr (by omega) (by omega) hG hS (lv_sub hl [0, 1, 2, 3, 4, 5, 6] rfl)
    · rw [show vOf h I 0 0 = nI (sSz h 0) from (if_pos hp).trans (if_pos rfl)] at q
      have hj : 0 < sSz h 0 := Decidable.of_not_not (fun z => q ((nI_leI (a := sSz h 0) (b := 0) (by omega) (by omega)).mpr (by omega)))
      refine lv_aload_n hx hb dL_law_1044 rfl (lv_at hl 5 rfl) ?_
      refine lv_iconst (v := 0) hx hb dL_law_1045 (by decide) ?_
      refine lv_iconst (v := 0) hx hb dL_law_1046 (by decide) ?_
      refine lv_iconst (v := 1) hx hb dL_law_1047 (by decide) ?_
      refine lv_bipush (v := 120) hx hb dL_law_1048 (by decide) ?_
      refine lv_aload hx hb dL_law_1050 (lv_at hl 0 rfl) ?_
      refine x_rd (g := (setG g0 a)) (As := [.ref (a [0]), .int 0, .int 0, .int 1, .int 120, .ref (a [41])]) (w := .int (-1002)) hx hb hml hown (hE a) hS hl.1 cyL_condition tw364 (fun n1 => ⟨_, _, ⟨by omega, by omega⟩, w_condition1_eIA l (setG g0 a) (xD h) I (xFh h) n1 _ _ (nI 0) (nI 0) 120 trivial [41] (show 2 ≤ sOw h by omega) rfl (t_X6_addEntry_d l hst (setG g0 a) h I n1 hW 0 hp 0 hj 120 _ _ (sCond_no _ _ _))⟩) (by decide) ⟨by omega, by omega⟩ ⟨by omega, by omega⟩ hG rfl rfl (Nat.le_of_ble_eq_true rfl) dL_law_1052 (fun H locs hG hS => ?_)
      refine lv_sipush (v := (-1002)) hx hb dL_law_1055 (by decide) ?_
      refine lv_icmp_ne (tgt := 1109) hx hb dL_law_1058 (by decide) (fun q_ => absurd (by decide) q_) (fun _ => ?_)
      refine lv_aload_n hx hb dL_law_1061 rfl (lv_at hl 5 rfl) ?_
      refine lv_iconst (v := 0) hx hb dL_law_1062 (by decide) ?_
      refine lv_iconst (v := 0) hx hb dL_law_1063 (by decide) ?_
      refine lv_iconst (v := 1) hx hb dL_law_1064 (by decide) ?_
      refine lv_bipush (v := 101) hx hb dL_law_1065 (by decide) ?_
      refine lv_aload hx hb dL_law_1067 (lv_at hl 1 rfl) ?_
      refine x_rd (g := (setG g0 a)) (As := [.ref (a [0]), .int 0, .int 0, .int 1, .int 101, .ref (a [40])]) (w := .int (-1002)) hx hb hml hown (hE a) hS hl.1 cyL_condition tw364 (fun n1 => ⟨_, _, ⟨by omega, by omega⟩, w_condition1_eIA l (setG g0 a) (xD h) I (xFh h) n1 _ _ (nI 0) (nI 0) 101 trivial [40] (show 1 ≤ sOw h by omega) rfl (t_X6_addEntry_d l hst (setG g0 a) h I n1 hW 0 hp 0 hj 101 _ _ (by rw [hz.1]; exact sCond_e _ _))⟩) (by decide) ⟨by omega, by omega⟩ ⟨by omega, by omega⟩ hG rfl rfl (Nat.le_of_ble_eq_true rfl) dL_law_1069 (fun H locs hG hS => ?_)
      refine lv_sipush (v := (-1002)) hx hb dL_law_1072 (by decide) ?_
      refine lv_icmp_ne (tgt := 1109) hx hb dL_law_1075 (by decide) (fun q_ => absurd (by decide) q_) (fun _ => ?_)
      refine lv_aload_n hx hb dL_law_1078 rfl (lv_at hl 5 rfl) ?_
      refine lv_iconst (v := 0) hx hb dL_law_1079 (by decide) ?_
      refine lv_iconst (v := 0) hx hb dL_law_1080 (by decide) ?_
      refine lv_iconst (v := 1) hx hb dL_law_1081 (by decide) ?_
      refine lv_bipush (v := 100) hx hb dL_law_1082 (by decide) ?_
      refine lv_aload hx hb dL_law_1084 (lv_at hl 1 rfl) ?_
      refine x_rd (g := (setG g0 a)) (As := [.ref (a [0]), .int 0, .int 0, .int 1, .int 100, .ref (a [40])]) (w := .int (-1002)) hx hb hml hown (hE a) hS hl.1 cyL_condition tw364 (fun n1 => ⟨_, _, ⟨by omega, by omega⟩, w_condition1_eIA l (setG g0 a) (xD h) I (xFh h) n1 _ _ (nI 0) (nI 0) 100 trivial [40] (show 1 ≤ sOw h by omega) rfl (t_X6_addEntry_d l hst (setG g0 a) h I n1 hW 0 hp 0 hj 100 _ _ (by rw [hz.1]; exact sCond_d _ _))⟩) (by decide) ⟨by omega, by omega⟩ ⟨by omega, by omega⟩ hG rfl rfl (Nat.le_of_ble_eq_true rfl) dL_law_1086 (fun H locs hG hS => ?_)
      refine lv_sipush (v := (-1002)) hx hb dL_law_1089 (by decide) ?_
      refine lv_icmp_ne (tgt := 1109) hx hb dL_law_1092 (by decide) (fun q_ => absurd (by decide) q_) (fun _ => ?_)
      refine lv_aload_n hx hb dL_law_1095 rfl (lv_at hl 5 rfl) ?_
      refine lv_iconst (v := 0) hx hb dL_law_1096 (by decide) ?_
      refine lv_iconst (v := 0) hx hb dL_law_1097 (by decide) ?_
      refine lv_bipush (v := 100) hx hb dL_law_1098 (by decide) ?_
      refine x_rd (g := (setG g0 a)) (As := [.ref (a [0]), .int 0, .int 0, .int 100]) (w := .int (-1002)) hx hb hml hown (hE a) hS hl.1 cyL_limit tw456 (fun n1 => ⟨_, _, ⟨by omega, by omega⟩, w_limit_eIA l (setG g0 a) (xD h) I (xFh h) n1 _ _ (nI 0) (nI 0) 100 trivial (t_X6_setLimit_h l hst (setG g0 a) h I n1 hW 0 hp 0 hj 100 (by decide) (by decide))⟩) (by decide) ⟨by omega, by omega⟩ ⟨by omega, by omega⟩ hG rfl rfl (Nat.le_of_ble_eq_true rfl) dL_law_1100 (fun H locs hG hS => ?_)
      refine lv_sipush (v := (-1002)) hx hb dL_law_1103 (by decide) ?_
      refine lv_icmp_eq (tgt := 1111) hx hb dL_law_1106 (by decide) (fun _ => ?_) (fun q_ => absurd (by decide) q_)
      exact u_1111 hst hx hb hml hown hE hR hRc fin hL ho hz hL0 hdr (by omega) (by omega) hG hS (lv_sub hl [0, 1, 2, 3, 4, 5, 6] rfl)
set_option maxHeartbeats 1000000 in
set_option maxRecDepth 100000 in
theorem u_906 (hst : l.stackTraces = false) (hx : p.tables.exec = Jvm.exec) (hb : c.code = cL_law) (hml : c.maxLocals = 17) (hown : s.vm.findClass "CasebookStepsLaw" = some m.cls) (hE : ∀ a, xE (setG g0 a) s s.heap) (hR : 12 ≤ R.frames ∧ 300 ≤ R.locals) {C D : Nat} (hRc : C ≤ R.cells ∧ D ≤ R.slots) (fin : ∀ (H : Heap) (locs : List Loc) (ls : Array Slot) (cells slots : Nat), cells ≤ C → slots ≤ D → va_S (gA g0) s.heap H locs → W p l e R s m args below meth c H locs cells slots Q (F0 m 1454 ls [.int 1])) (hL : LW h I jn) (ho : sOw h = 2) (hz : I [40] 0 = 10 ∧ I [40] 1 = 100) {h0 : xS} {I0 : xI} (hL0 : LW h0 I0 jn) (hdr : ∀ (n : Nat) (H : Heap), xG_ (setG g0 a) (xD h) I (xFh h) n H → xG_ (setG g0 a) (xD h0) I0 (xFh h0) 0 H) (hc : cells + 180 ≤ C) (hs : slots + 1080 ≤ D) (hG : xG_ (setG g0 a) (xD h) I (xFh h) 0 H) (hS : va_S (gA g0) s.heap H locs) (hl : lv_has ls 17 [(8, .ref (a [41])), (7, .ref (a [40])), (6, .int (nI (sNc h))), (5, .int (nI (sNp h))), (3, .long (fSum h0 I0)), (1, .ref (a [0])), (0, .ref (gSb g0))]) : W p l e R s m args below meth c H locs cells slots Q (F0 m 906 ls []) := by
  have hts := (hE a).ts args
  have hn4 := hL.n
  have hW := hL.1.1.1
  have hC := hL.1.2.1.1
  have hi8 : ∀ z : 0 < sNc h, (8 : Int32) < 0 ∨ nI (sSz h (sPl h 0)) ≤ (8 : Int32) := fun z => by
    have z2 := (hn4.2.2.2 0 z).2.2
    exact Or.inr ((nI_leI (a := sSz h (sPl h 0)) (b := 8) (by omega) (by omega)).mpr z2)
  have hi9 : ∀ z : 0 < sNp h, (8 : Int32) < 0 ∨ nI (sSz h 0) ≤ (8 : Int32) := fun z => by
    have z2 := hn4.2.2.1 0 z
    exact Or.inr ((nI_leI (a := sSz h 0) (b := 8) (by omega) (by omega)).mpr z2)
  have hi3 : ∀ (z : 0 < sNc h) (j : 0 < sSz h (sPl h 0)), (3 : Int32) < 0 ∨ nI (sCn h (sPl h 0) 0 0) ≤ (3 : Int32) := fun z j => by
    have z2 := (((hW.2.2 _ (hC.2.2 0 z).1).2.2.2 0 j).2.2 0 (by decide)).2.1
    exact Or.inr ((nI_leI (a := sCn h (sPl h 0) 0 0) (b := 3) (by omega) (by omega)).mpr z2)
  refine lv_iload hx hb dL_law_906 (lv_at hl 3 rfl) ?_
  refine lv_if_le (tgt := 926) hx hb dL_law_908 (by decide) (fun _ => ?_) (fun q => ?_)
  · exact u_926 hst hx hb hml hown hE hR hRc fin hL ho hz hL0 hdr (by omega) (by omega) hG hS (lv_sub hl [0, 1, 2, 3, 4, 5, 6] rfl)
  · have hp : 0 < sNp h := Decidable.of_not_not (fun z => q ((nI_leI (a := sNp h) (b := 0) (by omega) (by omega)).mpr (by omega)))
    have hsz := hn4.2.2.1 0 hp
    refine lv_aload_n hx hb dL_law_911 rfl (lv_at hl 5 rfl) ?_
    refine lv_iconst (v := 0) hx hb dL_law_912 (by decide) ?_
    refine lv_bipush (v := 116) hx hb dL_law_913 (by decide) ?_
    refine lv_bipush (v := (-2)) hx hb dL_law_915 (by decide) ?_
    refine x_rd (g := (setG g0 a)) (As := [.ref (a [0]), .int 0, .int 116, .int (-2)]) (w := .int (-1002)) hx hb hml hown (hE a) hS hl.1 cyL_step tw238 (fun n1 => ⟨_, _, ⟨by omega, by omega⟩, w_step_eIA l (setG g0 a) (xD h) I (xFh h) n1 _ _ (nI 0) 116 (-2) trivial (t_X6_addStep_q l hst (setG g0 a) h I n1 hW 0 hp 116 (Or.inr (Or.inl rfl)) (-2) (by decide) (Or.inl (by decide)))⟩) (by decide) ⟨by omega, by omega⟩ ⟨by omega, by omega⟩ hG rfl rfl (Nat.le_of_ble_eq_true rfl) dL_law_917 (fun H locs hG hS => ?_)
    refine lv_sipush (v := (-1002)) hx hb dL_law_920 (by decide) ?_
    refine lv_icmp_ne (tgt := 1028) hx hb dL_law_923 (by decide) (fun q_ => absurd (by decide) q_) (fun _ => ?_)
    exact u_926 hst hx hb hml hown hE hR hRc fin hL ho hz hL0 hdr (by omega) (by omega) hG hS (lv_sub hl [0, 1, 2, 3, 4, 5, 6] rfl)
set_option maxHeartbeats 1000000 in
set_option maxRecDepth 100000 in
theorem u_886 (hst : l.stackTraces = false) (hx : p.tables.exec = Jvm.exec) (hb : c.code = cL_law) (hml : c.maxLocals = 17) (hown : s.vm.findClass "CasebookStepsLaw" = some m.cls) (hE : ∀ a, xE (setG g0 a) s s.heap) (hR : 12 ≤ R.frames ∧ 300 ≤ R.locals) {C D : Nat} (hRc : C ≤ R.cells ∧ D ≤ R.slots) (fin : ∀ (H : Heap) (locs : List Loc) (ls : Array Slot) (cells slots : Nat), cells ≤ C → slots ≤ D → va_S (gA g0) s.heap H locs → W p l e R s m args below meth c H locs cells slots Q (F0 m 1454 ls [.int 1])) (hL : LW h I jn) (ho : sOw h = 2) (hz : I [40] 0 = 10 ∧ I [40] 1 = 100) {h0 : xS} {I0 : xI} (hL0 : LW h0 I0 jn) (hdr : ∀ (n : Nat) (H : Heap), xG_ (setG g0 a) (xD h) I (xFh h) n H → xG_ (setG g0 a) (xD h0) I0 (xFh h0) 0 H) (hc : cells + 181 ≤ C) (hs : slots + 1086 ≤ D) (hG : xG_ (setG g0 a) (xD h) I (xFh h) 0 H) (hS : va_S (gA g0) s.heap H locs) (hl : lv_has ls 17 [(8, .ref (a [41])), (7, .ref (a [40])), (6, .int (nI (sNc h))), (5, .int (nI (sNp h))), (3, .long (fSum h0 I0)), (1, .ref (a [0])), (0, .ref (gSb g0))]) : W p l e R s m args below meth c H locs cells slots Q (F0 m 886 ls []) := by
  have hts := (hE a).ts args
  have hn4 := hL.n
  have hW := hL.1.1.1
  have hC := hL.1.2.1.1
  have hi8 : ∀ z : 0 < sNc h, (8 : Int32) < 0 ∨ nI (sSz h (sPl h 0)) ≤ (8 : Int32) := fun z => by
    have z2 := (hn4.2.2.2 0 z).2.2
    exact Or.inr ((nI_leI (a := sSz h (sPl h 0)) (b := 8) (by omega) (by omega)).mpr z2)
  have hi9 : ∀ z : 0 < sNp h, (8 : Int32) < 0 ∨ nI (sSz h 0) ≤ (8 : Int32) := fun z => by
    have z2 := hn4.2.2.1 0 z
    exact Or.inr ((nI_leI (a := sSz h 0) (b := 8) (by omega) (by omega)).mpr z2)
  have hi3 : ∀ (z : 0 < sNc h) (j : 0 < sSz h (sPl h 0)), (3 : Int32) < 0 ∨ nI (sCn h (sPl h 0) 0 0) ≤ (3 : Int32) := fun z j => by
    have z2 := (((hW.2.2 _ (hC.2.2 0 z).1).2.2.2 0 j).2.2 0 (by decide)).2.1
    exact Or.inr ((nI_leI (a := sCn h (sPl h 0) 0 0) (b := 3) (by omega) (by omega)).mpr z2)
  refine lv_iload hx hb dL_law_886 (lv_at hl 3 rfl) ?_
  refine lv_if_le (tgt := 906) hx hb dL_law_888 (by decide) (fun _ => ?_) (fun q => ?_)
  · exact u_906 hst hx hb hml hown hE hR hRc fin hL ho hz hL0 hdr (by omega) (by omega) hG hS (lv_sub hl [0, 1, 2, 3, 4, 5, 6] rfl)
  · have hp : 0 < sNp h := Decidable.of_not_not (fun z => q ((nI_leI (a := sNp h) (b := 0) (by omega) (by omega)).mpr (by omega)))
    have hsz := hn4.2.2.1 0 hp
    refine lv_aload_n hx hb dL_law_891 rfl (lv_at hl 5 rfl) ?_
    refine lv_iconst (v := 0) hx hb dL_law_892 (by decide) ?_
    refine lv_bipush (v := 116) hx hb dL_law_893 (by decide) ?_
    refine lv_bipush (v := 8) hx hb dL_law_895 (by decide) ?_
    refine x_rd (g := (setG g0 a)) (As := [.ref (a [0]), .int 0, .int 116, .int 8]) (w := .int (-1002)) hx hb hml hown (hE a) hS hl.1 cyL_step tw238 (fun n1 => ⟨_, _, ⟨by omega, by omega⟩, w_step_eIA l (setG g0 a) (xD h) I (xFh h) n1 _ _ (nI 0) 116 8 trivial (t_X6_addStep_q l hst (setG g0 a) h I n1 hW 0 hp 116 (Or.inr (Or.inl rfl)) 8 (by decide) (Or.inr (show nI (sSz h 0) ≤ (8 : Int32) from (nI_leI (a := sSz h 0) (b := 8) (by omega) (by omega)).mpr (by omega))))⟩) (by decide) ⟨by omega, by omega⟩ ⟨by omega, by omega⟩ hG rfl rfl (Nat.le_of_ble_eq_true rfl) dL_law_897 (fun H locs hG hS => ?_)
    refine lv_sipush (v := (-1002)) hx hb dL_law_900 (by decide) ?_
    refine lv_icmp_ne (tgt := 1028) hx hb dL_law_903 (by decide) (fun q_ => absurd (by decide) q_) (fun _ => ?_)
    exact u_906 hst hx hb hml hown hE hR hRc fin hL ho hz hL0 hdr (by omega) (by omega) hG hS (lv_sub hl [0, 1, 2, 3, 4, 5, 6] rfl)
set_option maxHeartbeats 1000000 in
set_option maxRecDepth 100000 in
theorem u_837 (hst : l.stackTraces = false) (hx : p.tables.exec = Jvm.exec) (hb : c.code = cL_law) (hml : c.maxLocals = 17) (hown : s.vm.findClass "CasebookStepsLaw" = some m.cls) (hE : ∀ a, xE (setG g0 a) s s.heap) (hR : 12 ≤ R.frames ∧ 300 ≤ R.locals) {C D : Nat} (hRc : C ≤ R.cells ∧ D ≤ R.slots) (fin : ∀ (H : Heap) (locs : List Loc) (ls : Array Slot) (cells slots : Nat), cells ≤ C → slots ≤ D → va_S (gA g0) s.heap H locs → W p l e R s m args below meth c H locs cells slots Q (F0 m 1454 ls [.int 1])) (hL : LW h I jn) (ho : sOw h = 2) (hz : I [40] 0 = 10 ∧ I [40] 1 = 100) {h0 : xS} {I0 : xI} (hL0 : LW h0 I0 jn) (hdr : ∀ (n : Nat) (H : Heap), xG_ (setG g0 a) (xD h) I (xFh h) n H → xG_ (setG g0 a) (xD h0) I0 (xFh h0) 0 H) (hc : cells + 184 ≤ C) (hs : slots + 1104 ≤ D) (hG : xG_ (setG g0 a) (xD h) I (xFh h) 0 H) (hS : va_S (gA g0) s.heap H locs) (hl : lv_has ls 17 [(8, .ref (a [41])), (7, .ref (a [40])), (6, .int (nI (sNc h))), (5, .int (nI (sNp h))), (3, .long (fSum h0 I0)), (1, .ref (a [0])), (0, .ref (gSb g0))]) : W p l e R s m args below meth c H locs cells slots Q (F0 m 837 ls []) := by
  have hts := (hE a).ts args
  have hn4 := hL.n
  have hW := hL.1.1.1
  have hC := hL.1.2.1.1
  have hi8 : ∀ z : 0 < sNc h, (8 : Int32) < 0 ∨ nI (sSz h (sPl h 0)) ≤ (8 : Int32) := fun z => by
    have z2 := (hn4.2.2.2 0 z).2.2
    exact Or.inr ((nI_leI (a := sSz h (sPl h 0)) (b := 8) (by omega) (by omega)).mpr z2)
  have hi9 : ∀ z : 0 < sNp h, (8 : Int32) < 0 ∨ nI (sSz h 0) ≤ (8 : Int32) := fun z => by
    have z2 := hn4.2.2.1 0 z
    exact Or.inr ((nI_leI (a := sSz h 0) (b := 8) (by omega) (by omega)).mpr z2)
  have hi3 : ∀ (z : 0 < sNc h) (j : 0 < sSz h (sPl h 0)), (3 : Int32) < 0 ∨ nI (sCn h (sPl h 0) 0 0) ≤ (3 : Int32) := fun z j => by
    have z2 := (((hW.2.2 _ (hC.2.2 0 z).1).2.2.2 0 j).2.2 0 (by decide)).2.1
    exact Or.inr ((nI_leI (a := sCn h (sPl h 0) 0 0) (b := 3) (by omega) (by omega)).mpr z2)
  refine lv_aload_n hx hb dL_law_837 rfl (lv_at hl 5 rfl) ?_
  refine lv_iload hx hb dL_law_838 (lv_at hl 3 rfl) ?_
  refine lv_bipush (v := 120) hx hb dL_law_840 (by decide) ?_
  refine lv_bipush (v := 9) hx hb dL_law_842 (by decide) ?_
  refine x_rd (g := (setG g0 a)) (As := [.ref (a [0]), .int (nI (sNp h)), .int 120, .int 9]) (w := .int (-1001)) hx hb hml hown (hE a) hS hl.1 cyL_step tw238 (fun n1 => ⟨_, _, ⟨by omega, by omega⟩, w_step_eIO l (setG g0 a) (xD h) I (xFh h) n1 _ _ (nI (sNp h)) 120 9 trivial (t_X6_addStep_p l hst (setG g0 a) h I n1 hW (nI (sNp h)) (Or.inr (Int32.le_refl _)) 120 9)⟩) (by decide) ⟨by omega, by omega⟩ ⟨by omega, by omega⟩ hG rfl rfl (Nat.le_of_ble_eq_true rfl) dL_law_844 (fun H locs hG hS => ?_)
  refine lv_sipush (v := (-1001)) hx hb dL_law_847 (by decide) ?_
  refine lv_icmp_ne (tgt := 1028) hx hb dL_law_850 (by decide) (fun q_ => absurd (by decide) q_) (fun _ => ?_)
  refine lv_aload_n hx hb dL_law_853 rfl (lv_at hl 5 rfl) ?_
  refine lv_iconst (v := (-1)) hx hb dL_law_854 (by decide) ?_
  refine lv_bipush (v := 116) hx hb dL_law_855 (by decide) ?_
  refine lv_iconst (v := (-1)) hx hb dL_law_857 (by decide) ?_
  refine x_rd (g := (setG g0 a)) (As := [.ref (a [0]), .int (-1), .int 116, .int (-1)]) (w := .int (-1001)) hx hb hml hown (hE a) hS hl.1 cyL_step tw238 (fun n1 => ⟨_, _, ⟨by omega, by omega⟩, w_step_eIO l (setG g0 a) (xD h) I (xFh h) n1 _ _ (-1) 116 (-1) trivial (t_X6_addStep_p l hst (setG g0 a) h I n1 hW (-1) (Or.inl (by decide)) 116 (-1))⟩) (by decide) ⟨by omega, by omega⟩ ⟨by omega, by omega⟩ hG rfl rfl (Nat.le_of_ble_eq_true rfl) dL_law_858 (fun H locs hG hS => ?_)
  refine lv_sipush (v := (-1001)) hx hb dL_law_861 (by decide) ?_
  refine lv_icmp_ne (tgt := 1028) hx hb dL_law_864 (by decide) (fun q_ => absurd (by decide) q_) (fun _ => ?_)
  refine lv_iload hx hb dL_law_867 (lv_at hl 3 rfl) ?_
  refine lv_if_le (tgt := 886) hx hb dL_law_869 (by decide) (fun _ => ?_) (fun q => ?_)
  · exact u_886 hst hx hb hml hown hE hR hRc fin hL ho hz hL0 hdr (by omega) (by omega) hG hS (lv_sub hl [0, 1, 2, 3, 4, 5, 6] rfl)
  · have hp : 0 < sNp h := Decidable.of_not_not (fun z => q ((nI_leI (a := sNp h) (b := 0) (by omega) (by omega)).mpr (by omega)))
    have hsz := hn4.2.2.1 0 hp
    refine lv_aload_n hx hb dL_law_872 rfl (lv_at hl 5 rfl) ?_
    refine lv_iconst (v := 0) hx hb dL_law_873 (by decide) ?_
    refine lv_bipush (v := 120) hx hb dL_law_874 (by decide) ?_
    refine lv_iconst (v := (-1)) hx hb dL_law_876 (by decide) ?_
    refine x_rd (g := (setG g0 a)) (As := [.ref (a [0]), .int 0, .int 120, .int (-1)]) (w := .int (-1002)) hx hb hml hown (hE a) hS hl.1 cyL_step tw238 (fun n1 => ⟨_, _, ⟨by omega, by omega⟩, w_step_eIA l (setG g0 a) (xD h) I (xFh h) n1 _ _ (nI 0) 120 (-1) trivial (t_X6_addStep_k l hst (setG g0 a) h I n1 hW 0 hp 120 (-1) (by decide) (by decide) (by decide))⟩) (by decide) ⟨by omega, by omega⟩ ⟨by omega, by omega⟩ hG rfl rfl (Nat.le_of_ble_eq_true rfl) dL_law_877 (fun H locs hG hS => ?_)
    refine lv_sipush (v := (-1002)) hx hb dL_law_880 (by decide) ?_
    refine lv_icmp_ne (tgt := 1028) hx hb dL_law_883 (by decide) (fun q_ => absurd (by decide) q_) (fun _ => ?_)
    exact u_886 hst hx hb hml hown hE hR hRc fin hL ho hz hL0 hdr (by omega) (by omega) hG hS (lv_sub hl [0, 1, 2, 3, 4, 5, 6] rfl)
set_option maxHeartbeats 1000000 in
set_option maxRecDepth 100000 in
theorem u_783 (hst : l.stackTraces = false) (hx : p.tables.exec = Jvm.exec) (hb : c.code = cL_law) (hml : c.maxLocals = 17) (hown : s.vm.findClass "CasebookStepsLaw" = some m.cls) (hE : ∀ a, xE (setG g0 a) s s.heap) (hR : 12 ≤ R.frames ∧ 300 ≤ R.locals) {C D : Nat} (hRc : C ≤ R.cells ∧ D ≤ R.slots) (fin : ∀ (H : Heap) (locs : List Loc) (ls : Array Slot) (cells slots : Nat), cells ≤ C → slots ≤ D → va_S (gA g0) s.heap H locs → W p l e R s m args below meth c H locs cells slots Q (F0 m 1454 ls [.int 1])) (hj : jn ≤ 512) (hL : LW h I jn) (ho : sOw h = 0) (hH : xR (setG g0 a) (xD h) I (xFh h) n H) (hc : cells + 599 ≤ C) (hs : slots + 3586 ≤ D) (hS : va_S (gA g0) s.heap H locs) (hl : lv_has ls 17 [(1, .ref (a [0])), (0, .ref (gSb g0))]) : W p l e R s m args below meth c H locs cells slots Q (F0 m 783 ls []) := by
  have hts := (hE a).ts args
  refine lv_aload_n hx hb dL_law_783 rfl (lv_at hl 0 rfl) ?_
  refine x_S1 (own := "CasebookStepsLaw") (g := setG g0 a) hx hb hml hown (hE a) hS hl.1 cyL_isSound tw792 (c_isSound hst (setG g0 a) n hL hj) ⟨by omega, by omega⟩ ⟨by omega, by omega⟩ hH rfl rfl (Nat.le_of_ble_eq_true rfl) dL_law_784 (fun H locs hQ hS => ?_)
  obtain ⟨h', I', hL, hv, hG⟩ := hQ
  rw [← show sOw h' = sOw h from hv.2.2.2.2.2.1] at ho
  clear hv hH
  refine lv_if_ne (tgt := 792) hx hb dL_law_787 (by decide) (fun _ => ?_) (fun q_ => absurd q_ (by decide))
  refine lv_aload_n hx hb dL_law_792 rfl (lv_at hl 0 rfl) ?_
  obtain ⟨n, -, hH⟩ := hG
  refine x_S1 (own := "CasebookStepsLaw") (g := setG g0 a) hx hb hml hown (hE a) hS hl.1 cyL_sum tw778 (c_sum hst (setG g0 a) n hL) ⟨by omega, by omega⟩ ⟨by omega, by omega⟩ hH rfl rfl (Nat.le_of_ble_eq_true rfl) dL_law_793 (fun H locs hG hS => ?_)
  refine lv_lstore_n (lv' := [(3, .long (fSum h' I')), (1, .ref (a [0])), (0, .ref (gSb g0))]) hx hb dL_law_796 rfl hl (by decide) rfl (fun ls hl => ?_)
  refine lv_aload_n hx hb dL_law_797 rfl (lv_at hl 1 rfl) ?_
  obtain ⟨n, -, hH⟩ := hG
  refine x_S1 (own := "CasebookStepsLaw") (g := setG g0 a) hx hb hml hown (hE a) hS hl.1 cyL_plans tw775 (c_plans hst (setG g0 a) n hL) ⟨by omega, by omega⟩ ⟨by omega, by omega⟩ hH rfl rfl (Nat.le_of_ble_eq_true rfl) dL_law_798 (fun H locs hG hS => ?_)
  refine lv_istore (lv' := [(5, .int (nI (sNp h'))), (3, .long (fSum h' I')), (1, .ref (a [0])), (0, .ref (gSb g0))]) hx hb dL_law_801 hl (by decide) rfl (fun ls hl => ?_)
  refine lv_aload_n hx hb dL_law_803 rfl (lv_at hl 2 rfl) ?_
  obtain ⟨n, -, hH⟩ := hG
  refine x_V1 (own := "CasebookStepsLaw") (g := setG g0 a) hx hb hml hown (hE a) hS hl.1 cyX6_cases tw150 (c_X6_cases l (setG g0 a) h' I' n hL.1.1.1 hL.1.2.1.1) ⟨by omega, by omega⟩ ⟨by omega, by omega⟩ (x_recv (hE a).1 hH (id := [0]) trivial (ci := 6) rfl (by decide) rfl) hH rfl rfl (Nat.le_of_ble_eq_true rfl) dL_law_804 (fun H locs hH hS => ?_)
  have no40 : ∀ id, xD h' id → ¬ (id = [40] ∨ id = [41]) := fun id hi z => by
    rcases z with rfl | rfl
    · exact absurd (show 1 ≤ sOw h' from hi) (by omega)
    · exact absurd (show 2 ≤ sOw h' from hi) (by omega)
  obtain ⟨a', ha'⟩ : ∃ a', a' = aI (aI a [40] n) [41] (n + 1) := ⟨_, rfl⟩
  have e40 : a' [40] = n := by rw [ha', aI_ne (by simp)]; exact aI_at
  have e41 : a' [41] = n + 1 := by rw [ha']; exact aI_at
  have eid : ∀ id, ¬ (id = [40] ∨ id = [41]) → a' id = a id := fun id hi => by rw [ha', aI_ne (fun z => hi (Or.inr z)), aI_ne (fun z => hi (Or.inl z))]
  have hH2 : xR (setG g0 a') (xD h') I' (xFh h') n H := hL.new (fun id => id = [40] ∨ id = [41]) eid no40 (fun j => by simp) hH
  rw [show a [0] = a' [0] from (eid [0] (by simp)).symm] at hl
  refine lv_istore (lv' := [(6, .int (nI (sNc h'))), (5, .int (nI (sNp h'))), (3, .long (fSum h' I')), (1, .ref (a' [0])), (0, .ref (gSb g0))]) hx hb dL_law_807 hl (by decide) rfl (fun ls hl => ?_)
  refine lv_iconst (v := 2) hx hb dL_law_809 (by decide) ?_
  refine x_newa (g := setG g0 a') (atype := .int) (L := 2) hx hb (hts _ tw60) 0 (by decide) rfl (hE a').1 hH2 hS [40] (fun z => no40 _ z (Or.inl rfl)) e40 rfl (by rfl) (by decide) (by omega) (by omega) dL_law_810 (fun H hH hS => ?_)
  refine lv_dup hx hb dL_law_812 rfl ?_
  refine lv_iconst (v := 0) hx hb dL_law_813 (by decide) ?_
  refine lv_bipush (v := 10) hx hb dL_law_814 (by decide) ?_
  refine x_iast (g := setG g0 a') hx hb (hE a').1 hH hS (id := [40]) (Or.inl rfl) (L := 2) rfl 0 rfl (by decide) (by decide) rfl dL_law_816 (fun H locs hH hS => ?_)
  refine lv_dup hx hb dL_law_817 rfl ?_
  refine lv_iconst (v := 1) hx hb dL_law_818 (by decide) ?_
  refine lv_bipush (v := 100) hx hb dL_law_819 (by decide) ?_
  refine x_iast (g := setG g0 a') hx hb (hE a').1 hH hS (id := [40]) (Or.inl rfl) (L := 2) rfl 1 rfl (by decide) (by decide) rfl dL_law_821 (fun H locs hH hS => ?_)
  refine lv_astore (lv' := [(7, .ref (a' [40])), (6, .int (nI (sNc h'))), (5, .int (nI (sNp h'))), (3, .long (fSum h' I')), (1, .ref (a' [0])), (0, .ref (gSb g0))]) hx hb dL_law_822 hl (by decide) rfl (fun ls hl => ?_)
  refine lv_iconst (v := 2) hx hb dL_law_824 (by decide) ?_
  refine x_newa (g := setG g0 a') (atype := .int) (L := 2) hx hb (hts _ tw60) 0 (by decide) rfl (hE a').1 hH hS [41] (fun z => z.elim (by simp) (fun y => no40 _ y (Or.inr rfl))) e41 rfl (by rfl) (by decide) (by omega) (by omega) dL_law_825 (fun H hH hS => ?_)
  have hH := own2 hH
  refine lv_dup hx hb dL_law_827 rfl ?_
  refine lv_iconst (v := 0) hx hb dL_law_828 (by decide) ?_
  refine lv_iconst (v := 0) hx hb dL_law_829 (by decide) ?_
  refine x_iast (g := setG g0 a') hx hb (hE a').1 hH hS (id := [41]) (show xD (hOw h' 2) [41] from Nat.le_refl 2) (L := 2) rfl 0 rfl (by decide) (by decide) rfl dL_law_830 (fun H locs hH hS => ?_)
  refine lv_dup hx hb dL_law_831 rfl ?_
  refine lv_iconst (v := 1) hx hb dL_law_832 (by decide) ?_
  refine lv_iconst (v := 0) hx hb dL_law_833 (by decide) ?_
  refine x_iast (g := setG g0 a') hx hb (hE a').1 hH hS (id := [41]) (show xD (hOw h' 2) [41] from Nat.le_refl 2) (L := 2) rfl 1 rfl (by decide) (by decide) rfl dL_law_834 (fun H locs hH hS => ?_)
  refine lv_astore (lv' := [(8, .ref (a' [41])), (7, .ref (a' [40])), (6, .int (nI (sNc h'))), (5, .int (nI (sNp h'))), (3, .long (fSum h' I')), (1, .ref (a' [0])), (0, .ref (gSb g0))]) hx hb dL_law_835 hl (by decide) rfl (fun ls hl => ?_)
  have eI : ∀ id, id ≠ [40] → id ≠ [41] → (up (up (upR (up (up (upR I' [40] (fun _ => 0)) [40] 0 10) [40] 1 100) [41] (fun _ => 0)) [41] 0 0) [41] 1 0) id = I' id := fun id q1 q2 => by rw [up_id q2, up_id q2, upR_id q2, up_id q1, up_id q1, upR_id q1]
  exact u_837 (h := hOw h' 2) (a := a') hst hx hb hml hown hE hR hRc fin ((hL.ow 2).up eI) rfl ⟨by simp [up, upR], by simp [up, upR]⟩ hL (fun n H hG => hG.drop 2 rfl ho eI) (by omega) (by omega) ⟨_, Nat.zero_le _, hH⟩ hS (lv_sub hl [0, 1, 2, 3, 4, 5, 6] rfl)
end XL
