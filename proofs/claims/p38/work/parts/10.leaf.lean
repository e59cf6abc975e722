/-! CONTRACTS: the leaves -/
set_option maxHeartbeats 1000000 in
set_option maxRecDepth 100000 in
theorem c_X4_stepAt (l : Launch) (g : xG) (h : xS) (I : xI) (n p j : Nat) (hpp : p < sNp h) (hj : j < sSz h p) (h8 : sSz h p ≤ 8) (hz : I [5, p] 2 = nI (sSz h p)) : xM l yX4_stepAt (xws yX4_stepAt cX4_stepAt 2 (some (FieldType.object "CasebookSteps$Step"))) 1 12 g [.ref (ga g [5, p]), .int (nI j)] (xR g (xD h) I (xFh h) n) (some (.ref (ga g [7, p, j]))) (xR g (xD h) I (xFh h) n) 0 0 := by
  refine xM.of (by decide) (Nat.le_of_ble_eq_true rfl) ?_
  intro P_ e_ s m_ bl_ mt_ cd_ ls hx hb hr hown hlocks hml hnm hE hK hts hH hS hl
  have hl : lv_has ls 2 [(0, .ref (ga g [5, p])), (1, .int (nI j))] := hl
  refine lv_iload_n hx hb dX4_stepAt_0 rfl (lv_at hl 1 rfl) ?_
  refine lv_if_lt (tgt := 18) hx hb dX4_stepAt_1 (by decide) (fun q_ => absurd q_ (fun z_ => absurd ((nI_ltI (a := j) (b := 0) (by omega) (by omega)).mp z_) (by omega))) (fun _ => ?_)
  refine lv_iload_n hx hb dX4_stepAt_4 rfl (lv_at hl 1 rfl) ?_
  refine lv_aload_n hx hb dX4_stepAt_5 rfl (lv_at hl 0 rfl) ?_
  refine x_get (C := RX4) (T := TX4) (N := 4) (ci := 4) hx hb hts iu4 hown hK hH (id := [5, p]) (by first | trivial | (simp only [xD]; omega) | (simp [xD]; done) | (simp [xD]; omega)) rfl rfl (by decide) 2 (by decide) (hts _ tw72) (fun _ h9 => h9) rfl (v := .int (nI (sSz h p))) (congrArg Value.int hz) dX4_stepAt_6 ?_
  refine lv_icmp_ge (tgt := 18) hx hb dX4_stepAt_9 (by decide) (fun q_ => absurd q_ (fun z_ => absurd ((nI_leI (a := (sSz h p)) (b := j) (by omega) (by omega)).mp z_) (by omega))) (fun _ => ?_)
  refine lv_iload_n hx hb dX4_stepAt_12 rfl (lv_at hl 1 rfl) ?_
  refine lv_bipush (v := 8) hx hb dX4_stepAt_13 (by decide) ?_
  refine lv_icmp_lt (tgt := 22) hx hb dX4_stepAt_15 (by decide) (fun _ => ?_) (fun q_ => absurd ((nI_ltI (a := j) (b := 8) (by omega) (by omega)).mpr (by omega)) q_)
  refine lv_aload_n hx hb dX4_stepAt_22 rfl (lv_at hl 0 rfl) ?_
  refine x_get (C := RX4) (T := TX4) (N := 4) (ci := 4) hx hb hts iu4 hown hK hH (id := [5, p]) (by first | trivial | (simp only [xD]; omega) | (simp [xD]; done) | (simp [xD]; omega)) rfl rfl (by decide) 1 (by decide) (hts _ tw71) (fun _ h9 => h9) rfl (v := .ref (ga g [6, p])) rfl dX4_stepAt_23 ?_
  refine lv_iload_n hx hb dX4_stepAt_26 rfl (lv_at hl 1 rfl) ?_
  refine x_aald hx hb hK hH (id := [6, p]) (by first | trivial | (simp only [xD]; omega) | (simp [xD]; done) | (simp [xD]; omega)) 5 (L := 8) rfl (by decide) j rfl (by omega) (by decide) (v := .ref (ga g [7, p, j])) (by show rq _ (if _ then _ else _) = _; rw [if_pos (by omega)]; rfl) dX4_stepAt_27 ?_
  exact x_aret hx hb hr hlocks hS dX4_stepAt_28 (Or.inr ⟨_, rfl⟩) rfl hH

set_option maxHeartbeats 1000000 in
set_option maxRecDepth 100000 in
theorem c_X4_stepAt_no (l : Launch) (g : xG) (h : xS) (I : xI) (n p : Nat) (x : Int32) (hpp : p < sNp h ∨ p = 3) (hz : I [5, p] 2 = nI (sSz h p)) (hx0 : x < 0 ∨ nI (sSz h p) ≤ x) : xM l yX4_stepAt (xws yX4_stepAt cX4_stepAt 2 (some (FieldType.object "CasebookSteps$Step"))) 1 12 g [.ref (ga g [5, p]), .int x] (xR g (xD h) I (xFh h) n) (some (.null)) (xR g (xD h) I (xFh h) n) 0 0 := by
  refine xM.of (by decide) (Nat.le_of_ble_eq_true rfl) ?_
  intro P_ e_ s m_ bl_ mt_ cd_ ls hx hb hr hown hlocks hml hnm hE hK hts hH hS hl
  have hl : lv_has ls 2 [(0, .ref (ga g [5, p])), (1, .int x)] := hl
  refine lv_iload_n hx hb dX4_stepAt_0 rfl (lv_at hl 1 rfl) ?_
  refine lv_if_lt (tgt := 18) hx hb dX4_stepAt_1 (by decide) (fun c_1 => ?_) (fun c_1 => ?_)
  · skip
    refine lv_null hx hb dX4_stepAt_18 ?_
    refine lv_goto (tgt := 28) hx hb dX4_stepAt_19 (by decide) ?_
    exact x_aret hx hb hr hlocks hS dX4_stepAt_28 (Or.inl rfl) rfl hH
  · skip
    refine lv_iload_n hx hb dX4_stepAt_4 rfl (lv_at hl 1 rfl) ?_
    refine lv_aload_n hx hb dX4_stepAt_5 rfl (lv_at hl 0 rfl) ?_
    refine x_get (C := RX4) (T := TX4) (N := 4) (ci := 4) hx hb hts iu4 hown hK hH (id := [5, p]) (by first | trivial | (simp only [xD]; omega) | (simp [xD]; done) | (simp [xD]; omega)) rfl rfl (by decide) 2 (by decide) (hts _ tw72) (fun _ h9 => h9) rfl (v := .int (nI (sSz h p))) (congrArg Value.int hz) dX4_stepAt_6 ?_
    refine lv_icmp_ge (tgt := 18) hx hb dX4_stepAt_9 (by decide) (fun _ => ?_) (fun q_ => absurd (hx0.resolve_left c_1) q_)
    refine lv_null hx hb dX4_stepAt_18 ?_
    refine lv_goto (tgt := 28) hx hb dX4_stepAt_19 (by decide) ?_
    exact x_aret hx hb hr hlocks hS dX4_stepAt_28 (Or.inl rfl) rfl hH

set_option maxHeartbeats 1000000 in
set_option maxRecDepth 100000 in
theorem c_X2_at (l : Launch) (g : xG) (h : xS) (I : xI) (n p j w k : Nat) (hpp : p < sNp h) (hj : j < sSz h p) (hw : w < 2) (hk : k < sCn h p j w) (h3 : sCn h p j w ≤ 3) (hz : I [8, p, j, w] 1 = nI (sCn h p j w)) : xM l yX2_at (xws yX2_at cX2_at 2 (some (FieldType.object "CasebookSteps$Condition"))) 1 12 g [.ref (ga g [8, p, j, w]), .int (nI k)] (xR g (xD h) I (xFh h) n) (some (.ref (ga g [10, p, j, w, k]))) (xR g (xD h) I (xFh h) n) 0 0 := by
  refine xM.of (by decide) (Nat.le_of_ble_eq_true rfl) ?_
  intro P_ e_ s m_ bl_ mt_ cd_ ls hx hb hr hown hlocks hml hnm hE hK hts hH hS hl
  have hl : lv_has ls 2 [(0, .ref (ga g [8, p, j, w])), (1, .int (nI k))] := hl
  refine lv_iload_n hx hb dX2_at_0 rfl (lv_at hl 1 rfl) ?_
  refine lv_if_lt (tgt := 17) hx hb dX2_at_1 (by decide) (fun q_ => absurd q_ (fun z_ => absurd ((nI_ltI (a := k) (b := 0) (by omega) (by omega)).mp z_) (by omega))) (fun _ => ?_)
  refine lv_iload_n hx hb dX2_at_4 rfl (lv_at hl 1 rfl) ?_
  refine lv_aload_n hx hb dX2_at_5 rfl (lv_at hl 0 rfl) ?_
  refine x_get (C := RX2) (T := TX2) (N := 2) (ci := 2) hx hb hts iu2 hown hK hH (id := [8, p, j, w]) (by first | trivial | (simp only [xD]; omega) | (simp [xD]; done) | (simp [xD]; omega)) rfl rfl (by decide) 1 (by decide) (hts _ tw316) (fun _ h9 => h9) rfl (v := .int (nI (sCn h p j w))) (congrArg Value.int hz) dX2_at_6 ?_
  refine lv_icmp_ge (tgt := 17) hx hb dX2_at_9 (by decide) (fun q_ => absurd q_ (fun z_ => absurd ((nI_leI (a := (sCn h p j w)) (b := k) (by omega) (by omega)).mp z_) (by omega))) (fun _ => ?_)
  refine lv_iload_n hx hb dX2_at_12 rfl (lv_at hl 1 rfl) ?_
  refine lv_iconst (v := 3) hx hb dX2_at_13 (by decide) ?_
  refine lv_icmp_lt (tgt := 21) hx hb dX2_at_14 (by decide) (fun _ => ?_) (fun q_ => absurd ((nI_ltI (a := k) (b := 3) (by omega) (by omega)).mpr (by omega)) q_)
  refine lv_aload_n hx hb dX2_at_21 rfl (lv_at hl 0 rfl) ?_
  refine x_get (C := RX2) (T := TX2) (N := 2) (ci := 2) hx hb hts iu2 hown hK hH (id := [8, p, j, w]) (by first | trivial | (simp only [xD]; omega) | (simp [xD]; done) | (simp [xD]; omega)) rfl rfl (by decide) 0 (by decide) (hts _ tw315) (fun _ h9 => h9) rfl (v := .ref (ga g [9, p, j, w])) rfl dX2_at_22 ?_
  refine lv_iload_n hx hb dX2_at_25 rfl (lv_at hl 1 rfl) ?_
  refine x_aald hx hb hK hH (id := [9, p, j, w]) (by first | trivial | (simp only [xD]; omega) | (simp [xD]; done) | (simp [xD]; omega)) 6 (L := 3) rfl (by decide) k rfl (by omega) (by decide) (v := .ref (ga g [10, p, j, w, k])) (by show rq _ (if _ then _ else _) = _; rw [if_pos (by omega)]; rfl) dX2_at_26 ?_
  exact x_aret hx hb hr hlocks hS dX2_at_27 (Or.inr ⟨_, rfl⟩) rfl hH

set_option maxHeartbeats 1000000 in
set_option maxRecDepth 100000 in
theorem c_X2_at_no (l : Launch) (g : xG) (h : xS) (I : xI) (n p j w : Nat) (x : Int32) (hpp : p < sNp h) (hj : j < sSz h p) (hw : w < 2) (hz : I [8, p, j, w] 1 = nI (sCn h p j w)) (hx0 : x < 0 ∨ nI (sCn h p j w) ≤ x) : xM l yX2_at (xws yX2_at cX2_at 2 (some (FieldType.object "CasebookSteps$Condition"))) 1 12 g [.ref (ga g [8, p, j, w]), .int x] (xR g (xD h) I (xFh h) n) (some (.null)) (xR g (xD h) I (xFh h) n) 0 0 := by
  refine xM.of (by decide) (Nat.le_of_ble_eq_true rfl) ?_
  intro P_ e_ s m_ bl_ mt_ cd_ ls hx hb hr hown hlocks hml hnm hE hK hts hH hS hl
  have hl : lv_has ls 2 [(0, .ref (ga g [8, p, j, w])), (1, .int x)] := hl
  refine lv_iload_n hx hb dX2_at_0 rfl (lv_at hl 1 rfl) ?_
  refine lv_if_lt (tgt := 17) hx hb dX2_at_1 (by decide) (fun c_1 => ?_) (fun c_1 => ?_)
  · skip
    refine lv_null hx hb dX2_at_17 ?_
    refine lv_goto (tgt := 27) hx hb dX2_at_18 (by decide) ?_
    exact x_aret hx hb hr hlocks hS dX2_at_27 (Or.inl rfl) rfl hH
  · skip
    refine lv_iload_n hx hb dX2_at_4 rfl (lv_at hl 1 rfl) ?_
    refine lv_aload_n hx hb dX2_at_5 rfl (lv_at hl 0 rfl) ?_
    refine x_get (C := RX2) (T := TX2) (N := 2) (ci := 2) hx hb hts iu2 hown hK hH (id := [8, p, j, w]) (by first | trivial | (simp only [xD]; omega) | (simp [xD]; done) | (simp [xD]; omega)) rfl rfl (by decide) 1 (by decide) (hts _ tw316) (fun _ h9 => h9) rfl (v := .int (nI (sCn h p j w))) (congrArg Value.int hz) dX2_at_6 ?_
    refine lv_icmp_ge (tgt := 17) hx hb dX2_at_9 (by decide) (fun _ => ?_) (fun q_ => absurd (hx0.resolve_left c_1) q_)
    refine lv_null hx hb dX2_at_17 ?_
    refine lv_goto (tgt := 27) hx hb dX2_at_18 (by decide) ?_
    exact x_aret hx hb hr hlocks hS dX2_at_27 (Or.inl rfl) rfl hH

set_option maxHeartbeats 1000000 in
set_option maxRecDepth 100000 in
theorem c_X0_stateOf (l : Launch) (g : xG) (h : xS) (I : xI) (n c : Nat) (X : xX) (hc : c < sNc h ∨ c = 4) (k : Nat) (hk : k < 8) (hch : xCh X) : xM l yX0_stateOf (xws yX0_stateOf cX0_stateOf 2 (some FieldType.char)) 1 12 g [.ref (ga g [11, c, 0]), .int (nI k)] (xR g (xD h) (sX I c X) (xFh h) n) (some (.int (X 2 k))) (xR g (xD h) (sX I c X) (xFh h) n) 0 0 := by
  refine xM.of (by decide) (Nat.le_of_ble_eq_true rfl) ?_
  intro P_ e_ s m_ bl_ mt_ cd_ ls hx hb hr hown hlocks hml hnm hE hK hts hH hS hl
  have hl : lv_has ls 2 [(0, .ref (ga g [11, c, 0])), (1, .int (nI k))] := hl
  refine lv_iload_n hx hb dX0_stateOf_0 rfl (lv_at hl 1 rfl) ?_
  refine lv_if_lt (tgt := 10) hx hb dX0_stateOf_1 (by decide) (fun q_ => absurd q_ (fun z_ => absurd ((nI_ltI (a := k) (b := 0) (by omega) (by omega)).mp z_) (by omega))) (fun _ => ?_)
  refine lv_iload_n hx hb dX0_stateOf_4 rfl (lv_at hl 1 rfl) ?_
  refine lv_bipush (v := 8) hx hb dX0_stateOf_5 (by decide) ?_
  refine lv_icmp_lt (tgt := 15) hx hb dX0_stateOf_7 (by decide) (fun _ => ?_) (fun q_ => absurd ((nI_ltI (a := k) (b := 8) (by omega) (by omega)).mpr (by omega)) q_)
  refine lv_aload_n hx hb dX0_stateOf_15 rfl (lv_at hl 0 rfl) ?_
  refine x_get (C := RX0) (T := TX0) (N := 11) (ci := 0) hx hb hts iu0 hown hK hH (id := [11, c, 0]) (by first | trivial | (simp only [xD]; omega) | (simp [xD]; done) | (simp [xD]; omega)) rfl rfl (by decide) 2 (by decide) (hts _ tw93) (fun _ h9 => h9) (sX_at _ _ _ _) (v := .ref (ga g [11, c, 2])) rfl dX0_stateOf_16 ?_
  refine lv_iload_n hx hb dX0_stateOf_19 rfl (lv_at hl 1 rfl) ?_
  refine x_cald hx hb hK hH (id := [11, c, 2]) (by first | trivial | (simp only [xD]; omega) | (simp [xD]; done) | (simp [xD]; omega)) (L := 8) rfl (sX_at _ _ _ _) k rfl (by omega) (by decide) dX0_stateOf_20 ?_
  exact x_zret hx hb hr hlocks hS dX0_stateOf_21 (hch k) rfl hH

set_option maxHeartbeats 1000000 in
set_option maxRecDepth 100000 in
theorem c_X0_clockOf (l : Launch) (g : xG) (h : xS) (I : xI) (n c : Nat) (X : xX) (hc : c < sNc h ∨ c = 4) (k : Nat) (hk : k < 8) : xM l yX0_clockOf (xws yX0_clockOf cX0_clockOf 2 (some FieldType.int)) 1 12 g [.ref (ga g [11, c, 0]), .int (nI k)] (xR g (xD h) (sX I c X) (xFh h) n) (some (.int (X 4 k))) (xR g (xD h) (sX I c X) (xFh h) n) 0 0 := by
  refine xM.of (by decide) (Nat.le_of_ble_eq_true rfl) ?_
  intro P_ e_ s m_ bl_ mt_ cd_ ls hx hb hr hown hlocks hml hnm hE hK hts hH hS hl
  have hl : lv_has ls 2 [(0, .ref (ga g [11, c, 0])), (1, .int (nI k))] := hl
  refine lv_iload_n hx hb dX0_clockOf_0 rfl (lv_at hl 1 rfl) ?_
  refine lv_if_lt (tgt := 10) hx hb dX0_clockOf_1 (by decide) (fun q_ => absurd q_ (fun z_ => absurd ((nI_ltI (a := k) (b := 0) (by omega) (by omega)).mp z_) (by omega))) (fun _ => ?_)
  refine lv_iload_n hx hb dX0_clockOf_4 rfl (lv_at hl 1 rfl) ?_
  refine lv_bipush (v := 8) hx hb dX0_clockOf_5 (by decide) ?_
  refine lv_icmp_lt (tgt := 14) hx hb dX0_clockOf_7 (by decide) (fun _ => ?_) (fun q_ => absurd ((nI_ltI (a := k) (b := 8) (by omega) (by omega)).mpr (by omega)) q_)
  refine lv_aload_n hx hb dX0_clockOf_14 rfl (lv_at hl 0 rfl) ?_
  refine x_get (C := RX0) (T := TX0) (N := 11) (ci := 0) hx hb hts iu0 hown hK hH (id := [11, c, 0]) (by first | trivial | (simp only [xD]; omega) | (simp [xD]; done) | (simp [xD]; omega)) rfl rfl (by decide) 4 (by decide) (hts _ tw95) (fun _ h9 => h9) (sX_at _ _ _ _) (v := .ref (ga g [11, c, 4])) rfl dX0_clockOf_15 ?_
  refine lv_iload_n hx hb dX0_clockOf_18 rfl (lv_at hl 1 rfl) ?_
  refine x_iald hx hb hK hH (id := [11, c, 4]) (by first | trivial | (simp only [xD]; omega) | (simp [xD]; done) | (simp [xD]; omega)) (L := 8) rfl (sX_at _ _ _ _) k rfl (by omega) (by decide) dX0_clockOf_19 ?_
  exact x_iret hx hb hr hlocks hS dX0_clockOf_20 rfl hH

set_option maxHeartbeats 1000000 in
set_option maxRecDepth 100000 in
theorem c_X0_countOf (l : Launch) (g : xG) (h : xS) (I : xI) (n c : Nat) (X : xX) (hc : c < sNc h ∨ c = 4) (k : Nat) (hk : k < 8) : xM l yX0_countOf (xws yX0_countOf cX0_countOf 2 (some FieldType.int)) 1 12 g [.ref (ga g [11, c, 0]), .int (nI k)] (xR g (xD h) (sX I c X) (xFh h) n) (some (.int (X 5 k))) (xR g (xD h) (sX I c X) (xFh h) n) 0 0 := by
  refine xM.of (by decide) (Nat.le_of_ble_eq_true rfl) ?_
  intro P_ e_ s m_ bl_ mt_ cd_ ls hx hb hr hown hlocks hml hnm hE hK hts hH hS hl
  have hl : lv_has ls 2 [(0, .ref (ga g [11, c, 0])), (1, .int (nI k))] := hl
  refine lv_iload_n hx hb dX0_countOf_0 rfl (lv_at hl 1 rfl) ?_
  refine lv_if_lt (tgt := 10) hx hb dX0_countOf_1 (by decide) (fun q_ => absurd q_ (fun z_ => absurd ((nI_ltI (a := k) (b := 0) (by omega) (by omega)).mp z_) (by omega))) (fun _ => ?_)
  refine lv_iload_n hx hb dX0_countOf_4 rfl (lv_at hl 1 rfl) ?_
  refine lv_bipush (v := 8) hx hb dX0_countOf_5 (by decide) ?_
  refine lv_icmp_lt (tgt := 14) hx hb dX0_countOf_7 (by decide) (fun _ => ?_) (fun q_ => absurd ((nI_ltI (a := k) (b := 8) (by omega) (by omega)).mpr (by omega)) q_)
  refine lv_aload_n hx hb dX0_countOf_14 rfl (lv_at hl 0 rfl) ?_
  refine x_get (C := RX0) (T := TX0) (N := 11) (ci := 0) hx hb hts iu0 hown hK hH (id := [11, c, 0]) (by first | trivial | (simp only [xD]; omega) | (simp [xD]; done) | (simp [xD]; omega)) rfl rfl (by decide) 5 (by decide) (hts _ tw96) (fun _ h9 => h9) (sX_at _ _ _ _) (v := .ref (ga g [11, c, 5])) rfl dX0_countOf_15 ?_
  refine lv_iload_n hx hb dX0_countOf_18 rfl (lv_at hl 1 rfl) ?_
  refine x_iald hx hb hK hH (id := [11, c, 5]) (by first | trivial | (simp only [xD]; omega) | (simp [xD]; done) | (simp [xD]; omega)) (L := 8) rfl (sX_at _ _ _ _) k rfl (by omega) (by decide) dX0_countOf_19 ?_
  exact x_iret hx hb hr hlocks hS dX0_countOf_20 rfl hH

def sIn (x lo hi : Int32) : Bool := !decide (x < lo) && !decide (hi ≤ x)
theorem b01_nar (b : Bool) : narrow .boolean (.int (b01 b)) = .int (b01 b) := by cases b <;> rfl
theorem b01_eq0 (b : Bool) : b01 b = 0 ↔ b = false := by cases b <;> decide
theorem b01_t {b : Bool} (h : b = true) : (1 : Int32) = b01 b := by rw [h]; rfl
theorem b01_f {b : Bool} (h : b = false) : (0 : Int32) = b01 b := by rw [h]; rfl
theorem i_nlt {x y : Int32} (h : ¬ x < y) : y ≤ x := Int32.not_lt.mp h
theorem i_nle {x y : Int32} (h : ¬ x ≤ y) : y < x := Int32.not_le.mp h
theorem i_lt_nle {x y : Int32} (h : x < y) : ¬ y ≤ x := Int32.not_le.mpr h
theorem i_le_nlt {x y : Int32} (h : x ≤ y) : ¬ y < x := Int32.not_lt.mpr h

set_option maxHeartbeats 1000000 in
set_option maxRecDepth 100000 in
theorem c_X6_isDatum (l : Launch) (g : xG) (h : xS) (I : xI) (n : Nat) (x : Int32)  : xM l yX6_isDatum (xws yX6_isDatum cX6_isDatum 1 (some FieldType.boolean)) 1 12 g [.int x] (xR g (xD h) I (xFh h) n) (some (.int (b01 (sIn x 0 4)))) (xR g (xD h) I (xFh h) n) 0 0 := by
  refine xM.of (by decide) (Nat.le_of_ble_eq_true rfl) ?_
  intro P_ e_ s m_ bl_ mt_ cd_ ls hx hb hr hown hlocks hml hnm hE hK hts hH hS hl
  have hl : lv_has ls 1 [(0, .int x)] := hl
  refine lv_iload_n hx hb dX6_isDatum_0 rfl (lv_at hl 0 rfl) ?_
  refine lv_if_lt (tgt := 13) hx hb dX6_isDatum_1 (by decide) (fun c_1 => ?_) (fun c_1 => ?_)
  · skip
    refine lv_iconst (v := 0) hx hb dX6_isDatum_13 (by decide) ?_
    exact x_zret hx hb hr hlocks hS dX6_isDatum_14 rfl (b01_f (by simp [sIn, *])) hH
  · skip
    refine lv_iload_n hx hb dX6_isDatum_4 rfl (lv_at hl 0 rfl) ?_
    refine lv_iconst (v := 4) hx hb dX6_isDatum_5 (by decide) ?_
    refine lv_icmp_ge (tgt := 13) hx hb dX6_isDatum_6 (by decide) (fun c_6 => ?_) (fun c_6 => ?_)
    · skip
      refine lv_iconst (v := 0) hx hb dX6_isDatum_13 (by decide) ?_
      exact x_zret hx hb hr hlocks hS dX6_isDatum_14 rfl (b01_f (by simp [sIn, *])) hH
    · skip
      refine lv_iconst (v := 1) hx hb dX6_isDatum_9 (by decide) ?_
      refine lv_goto (tgt := 14) hx hb dX6_isDatum_10 (by decide) ?_
      exact x_zret hx hb hr hlocks hS dX6_isDatum_14 rfl (b01_t (by simp [sIn, *])) hH

set_option maxHeartbeats 1000000 in
set_option maxRecDepth 100000 in
theorem c_X6_isEvent (l : Launch) (g : xG) (h : xS) (I : xI) (n : Nat) (x : Int32)  : xM l yX6_isEvent (xws yX6_isEvent cX6_isEvent 1 (some FieldType.boolean)) 1 12 g [.int x] (xR g (xD h) I (xFh h) n) (some (.int (b01 (sIn x 0 10)))) (xR g (xD h) I (xFh h) n) 0 0 := by
  refine xM.of (by decide) (Nat.le_of_ble_eq_true rfl) ?_
  intro P_ e_ s m_ bl_ mt_ cd_ ls hx hb hr hown hlocks hml hnm hE hK hts hH hS hl
  have hl : lv_has ls 1 [(0, .int x)] := hl
  refine lv_iload_n hx hb dX6_isEvent_0 rfl (lv_at hl 0 rfl) ?_
  refine lv_if_lt (tgt := 14) hx hb dX6_isEvent_1 (by decide) (fun c_1 => ?_) (fun c_1 => ?_)
  · skip
    refine lv_iconst (v := 0) hx hb dX6_isEvent_14 (by decide) ?_
    exact x_zret hx hb hr hlocks hS dX6_isEvent_15 rfl (b01_f (by simp [sIn, *])) hH
  · skip
    refine lv_iload_n hx hb dX6_isEvent_4 rfl (lv_at hl 0 rfl) ?_
    refine lv_bipush (v := 10) hx hb dX6_isEvent_5 (by decide) ?_
    refine lv_icmp_ge (tgt := 14) hx hb dX6_isEvent_7 (by decide) (fun c_7 => ?_) (fun c_7 => ?_)
    · skip
      refine lv_iconst (v := 0) hx hb dX6_isEvent_14 (by decide) ?_
      exact x_zret hx hb hr hlocks hS dX6_isEvent_15 rfl (b01_f (by simp [sIn, *])) hH
    · skip
      refine lv_iconst (v := 1) hx hb dX6_isEvent_10 (by decide) ?_
      refine lv_goto (tgt := 15) hx hb dX6_isEvent_11 (by decide) ?_
      exact x_zret hx hb hr hlocks hS dX6_isEvent_15 rfl (b01_t (by simp [sIn, *])) hH

set_option maxHeartbeats 1000000 in
set_option maxRecDepth 100000 in
theorem c_X6_isValue (l : Launch) (g : xG) (h : xS) (I : xI) (n : Nat) (x : Int32)  : xM l yX6_isValue (xws yX6_isValue cX6_isValue 1 (some FieldType.boolean)) 1 12 g [.int x] (xR g (xD h) I (xFh h) n) (some (.int (b01 (!decide (x < -99) && !decide (99 < x))))) (xR g (xD h) I (xFh h) n) 0 0 := by
  refine xM.of (by decide) (Nat.le_of_ble_eq_true rfl) ?_
  intro P_ e_ s m_ bl_ mt_ cd_ ls hx hb hr hown hlocks hml hnm hE hK hts hH hS hl
  have hl : lv_has ls 1 [(0, .int x)] := hl
  refine lv_iload_n hx hb dX6_isValue_0 rfl (lv_at hl 0 rfl) ?_
  refine lv_bipush (v := (-99)) hx hb dX6_isValue_1 (by decide) ?_
  refine lv_icmp_lt (tgt := 16) hx hb dX6_isValue_3 (by decide) (fun c_3 => ?_) (fun c_3 => ?_)
  · skip
    refine lv_iconst (v := 0) hx hb dX6_isValue_16 (by decide) ?_
    exact x_zret hx hb hr hlocks hS dX6_isValue_17 rfl (b01_f (by simp [*])) hH
  · skip
    refine lv_iload_n hx hb dX6_isValue_6 rfl (lv_at hl 0 rfl) ?_
    refine lv_bipush (v := 99) hx hb dX6_isValue_7 (by decide) ?_
    refine lv_icmp_gt (tgt := 16) hx hb dX6_isValue_9 (by decide) (fun c_9 => ?_) (fun c_9 => ?_)
    · skip
      refine lv_iconst (v := 0) hx hb dX6_isValue_16 (by decide) ?_
      exact x_zret hx hb hr hlocks hS dX6_isValue_17 rfl (b01_f (by simp [*])) hH
    · skip
      refine lv_iconst (v := 1) hx hb dX6_isValue_12 (by decide) ?_
      refine lv_goto (tgt := 17) hx hb dX6_isValue_13 (by decide) ?_
      exact x_zret hx hb hr hlocks hS dX6_isValue_17 rfl (b01_t (by simp [*])) hH
