/-! CONTRACTS: what is asked of arguments -/
set_option maxHeartbeats 1000000 in
set_option maxRecDepth 100000 in
theorem c_X6_existingPlan (l : Launch) (g : xG) (h : xS) (I : xI) (n : Nat) (p : Nat) (hpp : p < sNp h) (h3 : sNp h ≤ 3) (hz : I [0] 1 = nI (sNp h))  : xM l yX6_existingPlan (xws yX6_existingPlan cX6_existingPlan 3 (some (FieldType.object "CasebookSteps$Plan"))) 2 33 g [.ref (ga g [0]), .int (nI p)] (xR g (xD h) I (xFh h) n) (some (.ref (ga g [5, p]))) (xR g (xD h) I (xFh h) n) 0 0 := by
  refine xM.of (by decide) (Nat.le_of_ble_eq_true rfl) ?_
  intro P_ e_ s m_ bl_ mt_ cd_ ls hx hb hr hown hlocks hml hnm hE hK hts hH hS hl
  have hl : lv_has ls 3 [(0, .ref (ga g [0])), (1, .int (nI p))] := hl
  refine lv_aload_n hx hb dX6_existingPlan_0 rfl (lv_at hl 0 rfl) ?_
  refine lv_iload_n hx hb dX6_existingPlan_1 rfl (lv_at hl 1 rfl) ?_
  refine x_V1 hx hb hml hown hE hS hl.1 cyX6_planAt tw251 (c_X6_planAt l g h I n p hpp h3 hz) ⟨Nat.le_of_ble_eq_true rfl, Nat.le_of_ble_eq_true rfl⟩ ⟨Nat.le_of_ble_eq_true rfl, Nat.le_of_ble_eq_true rfl⟩ (x_recv hK hH (id := [0]) (by first | trivial | (simp only [xD]; omega) | (simp [xD]; done) | (simp [xD]; omega)) (ci := 6) rfl (by decide) rfl) hH rfl rfl (Nat.le_of_ble_eq_true rfl) dX6_existingPlan_2 (fun H locs hH hS => ?_)
  refine lv_astore_n (lv' := [(2, .ref (ga g [5, p])), (0, .ref (ga g [0])), (1, .int (nI p))]) hx hb dX6_existingPlan_5 rfl hl (by decide) rfl (fun ls hl => ?_)
  refine lv_aload_n hx hb dX6_existingPlan_6 rfl (lv_at hl 0 rfl) ?_
  refine lv_ifnonnull (tgt := 21) hx hb dX6_existingPlan_7 (by decide) ?_
  refine lv_aload_n hx hb dX6_existingPlan_21 rfl (lv_at hl 0 rfl) ?_
  exact x_aret hx hb hr hlocks hS dX6_existingPlan_22 (Or.inr ⟨_, rfl⟩) rfl hH

set_option maxHeartbeats 1000000 in
set_option maxRecDepth 100000 in
theorem t_X6_existingPlan (l : Launch) (hst : l.stackTraces = false) (g : xG) (h : xS) (I : xI) (n : Nat) (x : Int32) (hz : I [0] 1 = nI (sNp h)) (hx0 : x < 0 ∨ nI (sNp h) ≤ x) : xTc l yX6_existingPlan (xws yX6_existingPlan cX6_existingPlan 3 (some (FieldType.object "CasebookSteps$Plan"))) 6 90 g [.ref (ga g [0]), .int x] (xR g (xD h) I (xFh h) n) eIO (xG_ g (xD h) I (xFh h) n) 1 6 := by
  refine xTc.of (by decide) (Nat.le_of_ble_eq_true rfl) ?_
  intro P_ e_ s m_ bl_ mt_ cd_ ls hx hb hr hown hlocks hml hout hE hK hts hH hS hl
  have hl : lv_has ls 3 [(0, .ref (ga g [0])), (1, .int x)] := hl
  refine lv_aload_n hx hb dX6_existingPlan_0 rfl (lv_at hl 0 rfl) ?_
  refine lv_iload_n hx hb dX6_existingPlan_1 rfl (lv_at hl 1 rfl) ?_
  refine x_V1 hx hb hml hown hE hS hl.1 cyX6_planAt tw251 (c_X6_planAt_no l g h I n x hz hx0) ⟨Nat.le_of_ble_eq_true rfl, Nat.le_of_ble_eq_true rfl⟩ ⟨Nat.le_of_ble_eq_true rfl, Nat.le_of_ble_eq_true rfl⟩ (x_recv hK hH (id := [0]) (by first | trivial | (simp only [xD]; omega) | (simp [xD]; done) | (simp [xD]; omega)) (ci := 6) rfl (by decide) rfl) hH rfl rfl (Nat.le_of_ble_eq_true rfl) dX6_existingPlan_2 (fun H locs hH hS => ?_)
  refine lv_astore_nN (lv' := [(2, .null), (0, .ref (ga g [0])), (1, .int x)]) hx hb dX6_existingPlan_5 rfl hl (by decide) rfl (fun ls hl => ?_)
  refine lv_aload_nN hx hb dX6_existingPlan_6 rfl (lv_at hl 0 rfl) ?_
  refine lv_ifnonnullN hx hb dX6_existingPlan_7 ?_
  exact x_thrW (text := "no such plan") hx hb hst hown hE hS hH (hl.1.trans hml.symm) thIO (List.mem_of_getElem? (i := 1) rfl) dX6_existingPlan_10 dX6_existingPlan_13 dX6_existingPlan_14 dX6_existingPlan_17 dX6_existingPlan_20 hout hlocks (Nat.le_of_ble_eq_true rfl) (Nat.le_of_ble_eq_true rfl) (Nat.le_of_ble_eq_true rfl) (Nat.le_of_ble_eq_true rfl) (Nat.le_of_ble_eq_true rfl) (Nat.le_of_ble_eq_true rfl) (fun _ hq => hq)

set_option maxHeartbeats 1000000 in
set_option maxRecDepth 100000 in
theorem c_X6_existingCase (l : Launch) (g : xG) (h : xS) (I : xI) (n : Nat) (c : Nat) (hc : c < sNc h) (h4 : sNc h ≤ 4) (hz : I [0] 3 = nI (sNc h))  : xM l yX6_existingCase (xws yX6_existingCase cX6_existingCase 3 (some (FieldType.object "CasebookSteps$Case"))) 2 33 g [.ref (ga g [0]), .int (nI c)] (xR g (xD h) I (xFh h) n) (some (.ref (ga g [11, c, 0]))) (xR g (xD h) I (xFh h) n) 0 0 := by
  refine xM.of (by decide) (Nat.le_of_ble_eq_true rfl) ?_
  intro P_ e_ s m_ bl_ mt_ cd_ ls hx hb hr hown hlocks hml hnm hE hK hts hH hS hl
  have hl : lv_has ls 3 [(0, .ref (ga g [0])), (1, .int (nI c))] := hl
  refine lv_aload_n hx hb dX6_existingCase_0 rfl (lv_at hl 0 rfl) ?_
  refine lv_iload_n hx hb dX6_existingCase_1 rfl (lv_at hl 1 rfl) ?_
  refine x_V1 hx hb hml hown hE hS hl.1 cyX6_caseAt tw575 (c_X6_caseAt l g h I n c hc h4 hz) ⟨Nat.le_of_ble_eq_true rfl, Nat.le_of_ble_eq_true rfl⟩ ⟨Nat.le_of_ble_eq_true rfl, Nat.le_of_ble_eq_true rfl⟩ (x_recv hK hH (id := [0]) (by first | trivial | (simp only [xD]; omega) | (simp [xD]; done) | (simp [xD]; omega)) (ci := 6) rfl (by decide) rfl) hH rfl rfl (Nat.le_of_ble_eq_true rfl) dX6_existingCase_2 (fun H locs hH hS => ?_)
  refine lv_astore_n (lv' := [(2, .ref (ga g [11, c, 0])), (0, .ref (ga g [0])), (1, .int (nI c))]) hx hb dX6_existingCase_5 rfl hl (by decide) rfl (fun ls hl => ?_)
  refine lv_aload_n hx hb dX6_existingCase_6 rfl (lv_at hl 0 rfl) ?_
  refine lv_ifnonnull (tgt := 21) hx hb dX6_existingCase_7 (by decide) ?_
  refine lv_aload_n hx hb dX6_existingCase_21 rfl (lv_at hl 0 rfl) ?_
  exact x_aret hx hb hr hlocks hS dX6_existingCase_22 (Or.inr ⟨_, rfl⟩) rfl hH

set_option maxHeartbeats 1000000 in
set_option maxRecDepth 100000 in
theorem t_X6_existingCase (l : Launch) (hst : l.stackTraces = false) (g : xG) (h : xS) (I : xI) (n : Nat) (x : Int32) (hz : I [0] 3 = nI (sNc h)) (hx0 : x < 0 ∨ nI (sNc h) ≤ x) : xTc l yX6_existingCase (xws yX6_existingCase cX6_existingCase 3 (some (FieldType.object "CasebookSteps$Case"))) 6 90 g [.ref (ga g [0]), .int x] (xR g (xD h) I (xFh h) n) eIO (xG_ g (xD h) I (xFh h) n) 1 6 := by
  refine xTc.of (by decide) (Nat.le_of_ble_eq_true rfl) ?_
  intro P_ e_ s m_ bl_ mt_ cd_ ls hx hb hr hown hlocks hml hout hE hK hts hH hS hl
  have hl : lv_has ls 3 [(0, .ref (ga g [0])), (1, .int x)] := hl
  refine lv_aload_n hx hb dX6_existingCase_0 rfl (lv_at hl 0 rfl) ?_
  refine lv_iload_n hx hb dX6_existingCase_1 rfl (lv_at hl 1 rfl) ?_
  refine x_V1 hx hb hml hown hE hS hl.1 cyX6_caseAt tw575 (c_X6_caseAt_no l g h I n x hz hx0) ⟨Nat.le_of_ble_eq_true rfl, Nat.le_of_ble_eq_true rfl⟩ ⟨Nat.le_of_ble_eq_true rfl, Nat.le_of_ble_eq_true rfl⟩ (x_recv hK hH (id := [0]) (by first | trivial | (simp only [xD]; omega) | (simp [xD]; done) | (simp [xD]; omega)) (ci := 6) rfl (by decide) rfl) hH rfl rfl (Nat.le_of_ble_eq_true rfl) dX6_existingCase_2 (fun H locs hH hS => ?_)
  refine lv_astore_nN (lv' := [(2, .null), (0, .ref (ga g [0])), (1, .int x)]) hx hb dX6_existingCase_5 rfl hl (by decide) rfl (fun ls hl => ?_)
  refine lv_aload_nN hx hb dX6_existingCase_6 rfl (lv_at hl 0 rfl) ?_
  refine lv_ifnonnullN hx hb dX6_existingCase_7 ?_
  exact x_thrW (text := "no such case") hx hb hst hown hE hS hH (hl.1.trans hml.symm) thIO (List.mem_of_getElem? (i := 15) rfl) dX6_existingCase_10 dX6_existingCase_13 dX6_existingCase_14 dX6_existingCase_17 dX6_existingCase_20 hout hlocks (Nat.le_of_ble_eq_true rfl) (Nat.le_of_ble_eq_true rfl) (Nat.le_of_ble_eq_true rfl) (Nat.le_of_ble_eq_true rfl) (Nat.le_of_ble_eq_true rfl) (Nat.le_of_ble_eq_true rfl) (fun _ hq => hq)

set_option maxHeartbeats 1000000 in
set_option maxRecDepth 100000 in
theorem c_X6_existingStep (l : Launch) (g : xG) (h : xS) (I : xI) (n : Nat) (p j : Nat) (hpp : p < sNp h) (hj : j < sSz h p) (h8 : sSz h p ≤ 8) (hz : I [5, p] 2 = nI (sSz h p))  : xM l yX6_existingStep (xws yX6_existingStep cX6_existingStep 3 (some (FieldType.object "CasebookSteps$Step"))) 2 33 g [.ref (ga g [5, p]), .int (nI j)] (xR g (xD h) I (xFh h) n) (some (.ref (ga g [7, p, j]))) (xR g (xD h) I (xFh h) n) 0 0 := by
  refine xM.of (by decide) (Nat.le_of_ble_eq_true rfl) ?_
  intro P_ e_ s m_ bl_ mt_ cd_ ls hx hb hr hown hlocks hml hnm hE hK hts hH hS hl
  have hl : lv_has ls 3 [(0, .ref (ga g [5, p])), (1, .int (nI j))] := hl
  refine lv_aload_n hx hb dX6_existingStep_0 rfl (lv_at hl 0 rfl) ?_
  refine lv_iload_n hx hb dX6_existingStep_1 rfl (lv_at hl 1 rfl) ?_
  refine x_V1 hx hb hml hown hE hS hl.1 cyX4_stepAt tw375 (c_X4_stepAt l g h I n p j hpp hj h8 hz) ⟨Nat.le_of_ble_eq_true rfl, Nat.le_of_ble_eq_true rfl⟩ ⟨Nat.le_of_ble_eq_true rfl, Nat.le_of_ble_eq_true rfl⟩ (x_recv hK hH (id := [5, p]) (by first | trivial | (simp only [xD]; omega) | (simp [xD]; done) | (simp [xD]; omega)) (ci := 4) rfl (by decide) rfl) hH rfl rfl (Nat.le_of_ble_eq_true rfl) dX6_existingStep_2 (fun H locs hH hS => ?_)
  refine lv_astore_n (lv' := [(2, .ref (ga g [7, p, j])), (0, .ref (ga g [5, p])), (1, .int (nI j))]) hx hb dX6_existingStep_5 rfl hl (by decide) rfl (fun ls hl => ?_)
  refine lv_aload_n hx hb dX6_existingStep_6 rfl (lv_at hl 0 rfl) ?_
  refine lv_ifnonnull (tgt := 21) hx hb dX6_existingStep_7 (by decide) ?_
  refine lv_aload_n hx hb dX6_existingStep_21 rfl (lv_at hl 0 rfl) ?_
  exact x_aret hx hb hr hlocks hS dX6_existingStep_22 (Or.inr ⟨_, rfl⟩) rfl hH

set_option maxHeartbeats 1000000 in
set_option maxRecDepth 100000 in
theorem t_X6_existingStep (l : Launch) (hst : l.stackTraces = false) (g : xG) (h : xS) (I : xI) (n : Nat) (p : Nat) (x : Int32) (hpp : p < sNp h) (hz : I [5, p] 2 = nI (sSz h p)) (hx0 : x < 0 ∨ nI (sSz h p) ≤ x) : xTc l yX6_existingStep (xws yX6_existingStep cX6_existingStep 3 (some (FieldType.object "CasebookSteps$Step"))) 6 90 g [.ref (ga g [5, p]), .int x] (xR g (xD h) I (xFh h) n) eIO (xG_ g (xD h) I (xFh h) n) 1 6 := by
  refine xTc.of (by decide) (Nat.le_of_ble_eq_true rfl) ?_
  intro P_ e_ s m_ bl_ mt_ cd_ ls hx hb hr hown hlocks hml hout hE hK hts hH hS hl
  have hl : lv_has ls 3 [(0, .ref (ga g [5, p])), (1, .int x)] := hl
  refine lv_aload_n hx hb dX6_existingStep_0 rfl (lv_at hl 0 rfl) ?_
  refine lv_iload_n hx hb dX6_existingStep_1 rfl (lv_at hl 1 rfl) ?_
  refine x_V1 hx hb hml hown hE hS hl.1 cyX4_stepAt tw375 (c_X4_stepAt_no l g h I n p x (Or.inl hpp) hz hx0) ⟨Nat.le_of_ble_eq_true rfl, Nat.le_of_ble_eq_true rfl⟩ ⟨Nat.le_of_ble_eq_true rfl, Nat.le_of_ble_eq_true rfl⟩ (x_recv hK hH (id := [5, p]) (by first | trivial | (simp only [xD]; omega) | (simp [xD]; done) | (simp [xD]; omega)) (ci := 4) rfl (by decide) rfl) hH rfl rfl (Nat.le_of_ble_eq_true rfl) dX6_existingStep_2 (fun H locs hH hS => ?_)
  refine lv_astore_nN (lv' := [(2, .null), (0, .ref (ga g [5, p])), (1, .int x)]) hx hb dX6_existingStep_5 rfl hl (by decide) rfl (fun ls hl => ?_)
  refine lv_aload_nN hx hb dX6_existingStep_6 rfl (lv_at hl 0 rfl) ?_
  refine lv_ifnonnullN hx hb dX6_existingStep_7 ?_
  exact x_thrW (text := "no such step") hx hb hst hown hE hS hH (hl.1.trans hml.symm) thIO (List.mem_of_getElem? (i := 6) rfl) dX6_existingStep_10 dX6_existingStep_13 dX6_existingStep_14 dX6_existingStep_17 dX6_existingStep_20 hout hlocks (Nat.le_of_ble_eq_true rfl) (Nat.le_of_ble_eq_true rfl) (Nat.le_of_ble_eq_true rfl) (Nat.le_of_ble_eq_true rfl) (Nat.le_of_ble_eq_true rfl) (Nat.le_of_ble_eq_true rfl) (fun _ hq => hq)

set_option maxHeartbeats 1000000 in
set_option maxRecDepth 100000 in
theorem c_X6_caseWithStep (l : Launch) (g : xG) (h : xS) (I : xI) (n : Nat) (c : Nat) (hc : c < sNc h) (h4 : sNc h ≤ 4) (hz : I [0] 3 = nI (sNc h)) (p : Nat) (hp : sPl h c = p) (hpp : p < sNp h) (j : Nat) (hj : j < sSz h p) (h8 : sSz h p ≤ 8) (hz2 : I [5, p] 2 = nI (sSz h p))  : xM l yX6_caseWithStep (xws yX6_caseWithStep cX6_caseWithStep 4 (some (FieldType.object "CasebookSteps$Case"))) 3 55 g [.ref (ga g [0]), .int (nI c), .int (nI j)] (xR g (xD h) I (xFh h) n) (some (.ref (ga g [11, c, 0]))) (xR g (xD h) I (xFh h) n) 0 0 := by
  refine xM.of (by decide) (Nat.le_of_ble_eq_true rfl) ?_
  intro P_ e_ s m_ bl_ mt_ cd_ ls hx hb hr hown hlocks hml hnm hE hK hts hH hS hl
  have hl : lv_has ls 4 [(0, .ref (ga g [0])), (1, .int (nI c)), (2, .int (nI j))] := hl
  refine lv_aload_n hx hb dX6_caseWithStep_0 rfl (lv_at hl 0 rfl) ?_
  refine lv_iload_n hx hb dX6_caseWithStep_1 rfl (lv_at hl 1 rfl) ?_
  refine x_V1 hx hb hml hown hE hS hl.1 cyX6_existingCase tw571 (c_X6_existingCase l g h I n c hc h4 hz) ⟨Nat.le_of_ble_eq_true rfl, Nat.le_of_ble_eq_true rfl⟩ ⟨Nat.le_of_ble_eq_true rfl, Nat.le_of_ble_eq_true rfl⟩ (x_recv hK hH (id := [0]) (by first | trivial | (simp only [xD]; omega) | (simp [xD]; done) | (simp [xD]; omega)) (ci := 6) rfl (by decide) rfl) hH rfl rfl (Nat.le_of_ble_eq_true rfl) dX6_caseWithStep_2 (fun H locs hH hS => ?_)
  refine lv_astore_n (lv' := [(3, .ref (ga g [11, c, 0])), (0, .ref (ga g [0])), (1, .int (nI c)), (2, .int (nI j))]) hx hb dX6_caseWithStep_5 rfl hl (by decide) rfl (fun ls hl => ?_)
  refine lv_aload_n hx hb dX6_caseWithStep_6 rfl (lv_at hl 0 rfl) ?_
  refine x_get (C := RX0) (T := TX0) (N := 11) (ci := 0) hx hb hts iu0 hown hK hH (id := [11, c, 0]) (by first | trivial | (simp only [xD]; omega) | (simp [xD]; done) | (simp [xD]; omega)) rfl rfl (by decide) 0 (by decide) (hts _ tw91) (fun _ h9 => h9) rfl (v := .ref (ga g [5, p])) (by rw [← hp]; rfl) dX6_caseWithStep_7 ?_
  refine lv_iload_n hx hb dX6_caseWithStep_10 rfl (lv_at hl 3 rfl) ?_
  refine x_S1 hx hb hml hown hE hS hl.1 cyX6_existingStep tw372 (c_X6_existingStep l g h I n p j hpp hj h8 hz2) ⟨Nat.le_of_ble_eq_true rfl, Nat.le_of_ble_eq_true rfl⟩ ⟨Nat.le_of_ble_eq_true rfl, Nat.le_of_ble_eq_true rfl⟩ hH rfl rfl (Nat.le_of_ble_eq_true rfl) dX6_caseWithStep_11 (fun H locs hH hS => ?_)
  refine lv_pop hx hb dX6_caseWithStep_14 rfl ?_
  refine lv_aload_n hx hb dX6_caseWithStep_15 rfl (lv_at hl 0 rfl) ?_
  exact x_aret hx hb hr hlocks hS dX6_caseWithStep_16 (Or.inr ⟨_, rfl⟩) rfl hH

set_option maxHeartbeats 1000000 in
set_option maxRecDepth 100000 in
theorem t_X6_caseWithStep_c (l : Launch) (hst : l.stackTraces = false) (g : xG) (h : xS) (I : xI) (n : Nat) (x : Int32) (hz : I [0] 3 = nI (sNc h)) (hx0 : x < 0 ∨ nI (sNc h) ≤ x) (y : Int32) : xTc l yX6_caseWithStep (xws yX6_caseWithStep cX6_caseWithStep 4 (some (FieldType.object "CasebookSteps$Case"))) 7 112 g [.ref (ga g [0]), .int x, .int y] (xR g (xD h) I (xFh h) n) eIO (xG_ g (xD h) I (xFh h) n) 1 6 := by
  refine xTc.of (by decide) (Nat.le_of_ble_eq_true rfl) ?_
  intro P_ e_ s m_ bl_ mt_ cd_ ls hx hb hr hown hlocks hml hout hE hK hts hH hS hl
  have hl : lv_has ls 4 [(0, .ref (ga g [0])), (1, .int x), (2, .int y)] := hl
  refine lv_aload_n hx hb dX6_caseWithStep_0 rfl (lv_at hl 0 rfl) ?_
  refine lv_iload_n hx hb dX6_caseWithStep_1 rfl (lv_at hl 1 rfl) ?_
  exact x_outT (x_VT hx hb hml hown hE hS hl.1 cyX6_existingCase tw571 (t_X6_existingCase l hst g h I n x hz hx0) ⟨Nat.le_of_ble_eq_true rfl, Nat.le_of_ble_eq_true rfl⟩ ⟨Nat.le_of_ble_eq_true rfl, Nat.le_of_ble_eq_true rfl⟩ (x_recv hK hH (id := [0]) (by first | trivial | (simp only [xD]; omega) | (simp [xD]; done) | (simp [xD]; omega)) (ci := 6) rfl (by decide) rfl) hH rfl rfl (Nat.le_of_ble_eq_true rfl) dX6_caseWithStep_2) hS hout hlocks (fun _ hq => hq) (Nat.le_of_ble_eq_true rfl) (Nat.le_of_ble_eq_true rfl)

set_option maxHeartbeats 1000000 in
set_option maxRecDepth 100000 in
theorem t_X6_caseWithStep_s (l : Launch) (hst : l.stackTraces = false) (g : xG) (h : xS) (I : xI) (n : Nat) (c : Nat) (hc : c < sNc h) (h4 : sNc h ≤ 4) (hz : I [0] 3 = nI (sNc h)) (p : Nat) (hp : sPl h c = p) (hpp : p < sNp h) (x : Int32) (hz2 : I [5, p] 2 = nI (sSz h p)) (hx0 : x < 0 ∨ nI (sSz h p) ≤ x) : xTc l yX6_caseWithStep (xws yX6_caseWithStep cX6_caseWithStep 4 (some (FieldType.object "CasebookSteps$Case"))) 7 112 g [.ref (ga g [0]), .int (nI c), .int x] (xR g (xD h) I (xFh h) n) eIO (xG_ g (xD h) I (xFh h) n) 1 6 := by
  refine xTc.of (by decide) (Nat.le_of_ble_eq_true rfl) ?_
  intro P_ e_ s m_ bl_ mt_ cd_ ls hx hb hr hown hlocks hml hout hE hK hts hH hS hl
  have hl : lv_has ls 4 [(0, .ref (ga g [0])), (1, .int (nI c)), (2, .int x)] := hl
  refine lv_aload_n hx hb dX6_caseWithStep_0 rfl (lv_at hl 0 rfl) ?_
  refine lv_iload_n hx hb dX6_caseWithStep_1 rfl (lv_at hl 1 rfl) ?_
  refine x_V1 hx hb hml hown hE hS hl.1 cyX6_existingCase tw571 (c_X6_existingCase l g h I n c hc h4 hz) ⟨Nat.le_of_ble_eq_true rfl, Nat.le_of_ble_eq_true rfl⟩ ⟨Nat.le_of_ble_eq_true rfl, Nat.le_of_ble_eq_true rfl⟩ (x_recv hK hH (id := [0]) (by first | trivial | (simp only [xD]; omega) | (simp [xD]; done) | (simp [xD]; omega)) (ci := 6) rfl (by decide) rfl) hH rfl rfl (Nat.le_of_ble_eq_true rfl) dX6_caseWithStep_2 (fun H locs hH hS => ?_)
  refine lv_astore_n (lv' := [(3, .ref (ga g [11, c, 0])), (0, .ref (ga g [0])), (1, .int (nI c)), (2, .int x)]) hx hb dX6_caseWithStep_5 rfl hl (by decide) rfl (fun ls hl => ?_)
  refine lv_aload_n hx hb dX6_caseWithStep_6 rfl (lv_at hl 0 rfl) ?_
  refine x_get (C := RX0) (T := TX0) (N := 11) (ci := 0) hx hb hts iu0 hown hK hH (id := [11, c, 0]) (by first | trivial | (simp only [xD]; omega) | (simp [xD]; done) | (simp [xD]; omega)) rfl rfl (by decide) 0 (by decide) (hts _ tw91) (fun _ h9 => h9) rfl (v := .ref (ga g [5, p])) (by rw [← hp]; rfl) dX6_caseWithStep_7 ?_
  refine lv_iload_n hx hb dX6_caseWithStep_10 rfl (lv_at hl 3 rfl) ?_
  exact x_outT (x_ST hx hb hml hown hE hS hl.1 cyX6_existingStep tw372 (t_X6_existingStep l hst g h I n p x hpp hz2 hx0) ⟨Nat.le_of_ble_eq_true rfl, Nat.le_of_ble_eq_true rfl⟩ ⟨Nat.le_of_ble_eq_true rfl, Nat.le_of_ble_eq_true rfl⟩ hH rfl rfl (Nat.le_of_ble_eq_true rfl) dX6_caseWithStep_11) hS hout hlocks (fun _ hq => hq) (Nat.le_of_ble_eq_true rfl) (Nat.le_of_ble_eq_true rfl)

set_option maxHeartbeats 1000000 in
set_option maxRecDepth 100000 in
theorem c_X6_refuseUsed (l : Launch) (g : xG) (h : xS) (I : xI) (n : Nat) (p : Nat) (hpp : p < sNp h) (hu : I [5, p] 3 = 0) : xM l yX6_refuseUsed (xws yX6_refuseUsed cX6_refuseUsed 1 none) 1 12 g [.ref (ga g [5, p])] (xR g (xD h) I (xFh h) n) none (xR g (xD h) I (xFh h) n) 0 0 := by
  refine xM.of (by decide) (Nat.le_of_ble_eq_true rfl) ?_
  intro P_ e_ s m_ bl_ mt_ cd_ ls hx hb hr hown hlocks hml hnm hE hK hts hH hS hl
  have hl : lv_has ls 1 [(0, .ref (ga g [5, p]))] := hl
  refine lv_aload_n hx hb dX6_refuseUsed_0 rfl (lv_at hl 0 rfl) ?_
  refine x_get (C := RX4) (T := TX4) (N := 4) (ci := 4) hx hb hts iu4 hown hK hH (id := [5, p]) (by first | trivial | (simp only [xD]; omega) | (simp [xD]; done) | (simp [xD]; omega)) rfl rfl (by decide) 3 (by decide) (hts _ tw76) (fun _ h9 => h9) rfl (v := .int (I [5, p] 3)) rfl dX6_refuseUsed_1 ?_
  refine lv_if_eq (tgt := 18) hx hb dX6_refuseUsed_4 (by decide) (fun _ => ?_) (fun q_ => absurd hu q_)
  exact x_vret hx hb hr hlocks hS dX6_refuseUsed_18 hH

set_option maxHeartbeats 1000000 in
set_option maxRecDepth 100000 in
theorem t_X6_refuseUsed (l : Launch) (hst : l.stackTraces = false) (g : xG) (h : xS) (I : xI) (n : Nat) (p : Nat) (hpp : p < sNp h) (hu : ¬ I [5, p] 3 = 0) : xTc l yX6_refuseUsed (xws yX6_refuseUsed cX6_refuseUsed 1 none) 6 90 g [.ref (ga g [5, p])] (xR g (xD h) I (xFh h) n) eIS (xG_ g (xD h) I (xFh h) n) 1 6 := by
  refine xTc.of (by decide) (Nat.le_of_ble_eq_true rfl) ?_
  intro P_ e_ s m_ bl_ mt_ cd_ ls hx hb hr hown hlocks hml hout hE hK hts hH hS hl
  have hl : lv_has ls 1 [(0, .ref (ga g [5, p]))] := hl
  refine lv_aload_n hx hb dX6_refuseUsed_0 rfl (lv_at hl 0 rfl) ?_
  refine x_get (C := RX4) (T := TX4) (N := 4) (ci := 4) hx hb hts iu4 hown hK hH (id := [5, p]) (by first | trivial | (simp only [xD]; omega) | (simp [xD]; done) | (simp [xD]; omega)) rfl rfl (by decide) 3 (by decide) (hts _ tw76) (fun _ h9 => h9) rfl (v := .int (I [5, p] 3)) rfl dX6_refuseUsed_1 ?_
  refine lv_if_eq (tgt := 18) hx hb dX6_refuseUsed_4 (by decide) (fun q_ => absurd q_ hu) (fun _ => ?_)
  exact x_thrW (text := "the plan is used") hx hb hst hown hE hS hH (hl.1.trans hml.symm) thIS (List.mem_of_getElem? (i := 4) rfl) dX6_refuseUsed_7 dX6_refuseUsed_10 dX6_refuseUsed_11 dX6_refuseUsed_14 dX6_refuseUsed_17 hout hlocks (Nat.le_of_ble_eq_true rfl) (Nat.le_of_ble_eq_true rfl) (Nat.le_of_ble_eq_true rfl) (Nat.le_of_ble_eq_true rfl) (Nat.le_of_ble_eq_true rfl) (Nat.le_of_ble_eq_true rfl) (fun _ hq => hq)

set_option maxHeartbeats 1000000 in
set_option maxRecDepth 100000 in
theorem c_X6_refuseFull (l : Launch) (g : xG) (h : xS) (I : xI) (n : Nat) (p j w : Nat) (hpp : p < sNp h) (hj : j < sSz h p) (hw : w < 2) (hz : I [8, p, j, w] 1 = nI (sCn h p j w)) (h3 : sCn h p j w ≤ 3) (hf : sCn h p j w < 3) : xM l yX6_refuseFull (xws yX6_refuseFull cX6_refuseFull 1 none) 1 12 g [.ref (ga g [8, p, j, w])] (xR g (xD h) I (xFh h) n) none (xR g (xD h) I (xFh h) n) 0 0 := by
  refine xM.of (by decide) (Nat.le_of_ble_eq_true rfl) ?_
  intro P_ e_ s m_ bl_ mt_ cd_ ls hx hb hr hown hlocks hml hnm hE hK hts hH hS hl
  have hl : lv_has ls 1 [(0, .ref (ga g [8, p, j, w]))] := hl
  refine lv_aload_n hx hb dX6_refuseFull_0 rfl (lv_at hl 0 rfl) ?_
  refine x_get (C := RX2) (T := TX2) (N := 2) (ci := 2) hx hb hts iu2 hown hK hH (id := [8, p, j, w]) (by first | trivial | (simp only [xD]; omega) | (simp [xD]; done) | (simp [xD]; omega)) rfl rfl (by decide) 1 (by decide) (hts _ tw318) (fun _ h9 => h9) rfl (v := .int (nI (sCn h p j w))) (congrArg Value.int hz) dX6_refuseFull_1 ?_
  refine lv_iconst (v := 3) hx hb dX6_refuseFull_4 (by decide) ?_
  refine lv_icmp_lt (tgt := 19) hx hb dX6_refuseFull_5 (by decide) (fun _ => ?_) (fun q_ => absurd ((nI_ltI (a := (sCn h p j w)) (b := 3) (by omega) (by omega)).mpr (by omega)) q_)
  exact x_vret hx hb hr hlocks hS dX6_refuseFull_19 hH

set_option maxHeartbeats 1000000 in
set_option maxRecDepth 100000 in
theorem t_X6_refuseFull (l : Launch) (hst : l.stackTraces = false) (g : xG) (h : xS) (I : xI) (n : Nat) (p j w : Nat) (hpp : p < sNp h) (hj : j < sSz h p) (hw : w < 2) (hz : I [8, p, j, w] 1 = nI (sCn h p j w)) (h3 : sCn h p j w ≤ 3) (hf : sCn h p j w = 3) : xTc l yX6_refuseFull (xws yX6_refuseFull cX6_refuseFull 1 none) 6 90 g [.ref (ga g [8, p, j, w])] (xR g (xD h) I (xFh h) n) eIS (xG_ g (xD h) I (xFh h) n) 1 6 := by
  refine xTc.of (by decide) (Nat.le_of_ble_eq_true rfl) ?_
  intro P_ e_ s m_ bl_ mt_ cd_ ls hx hb hr hown hlocks hml hout hE hK hts hH hS hl
  have hl : lv_has ls 1 [(0, .ref (ga g [8, p, j, w]))] := hl
  refine lv_aload_n hx hb dX6_refuseFull_0 rfl (lv_at hl 0 rfl) ?_
  refine x_get (C := RX2) (T := TX2) (N := 2) (ci := 2) hx hb hts iu2 hown hK hH (id := [8, p, j, w]) (by first | trivial | (simp only [xD]; omega) | (simp [xD]; done) | (simp [xD]; omega)) rfl rfl (by decide) 1 (by decide) (hts _ tw318) (fun _ h9 => h9) rfl (v := .int (nI (sCn h p j w))) (congrArg Value.int hz) dX6_refuseFull_1 ?_
  refine lv_iconst (v := 3) hx hb dX6_refuseFull_4 (by decide) ?_
  refine lv_icmp_lt (tgt := 19) hx hb dX6_refuseFull_5 (by decide) (fun q_ => absurd q_ (fun z_ => absurd ((nI_ltI (a := (sCn h p j w)) (b := 3) (by omega) (by omega)).mp z_) (by omega))) (fun _ => ?_)
  exact x_thrW (text := "the step has 3 such conditions") hx hb hst hown hE hS hH (hl.1.trans hml.symm) thIS (List.mem_of_getElem? (i := 8) rfl) dX6_refuseFull_8 dX6_refuseFull_11 dX6_refuseFull_12 dX6_refuseFull_15 dX6_refuseFull_18 hout hlocks (Nat.le_of_ble_eq_true rfl) (Nat.le_of_ble_eq_true rfl) (Nat.le_of_ble_eq_true rfl) (Nat.le_of_ble_eq_true rfl) (Nat.le_of_ble_eq_true rfl) (Nat.le_of_ble_eq_true rfl) (fun _ hq => hq)

set_option maxHeartbeats 1000000 in
set_option maxRecDepth 100000 in
theorem c_X6_refuseOtherThanTask (l : Launch) (g : xG) (h : xS) (I : xI) (n : Nat) (p j : Nat) (hpp : p < sNp h) (hj : j < sSz h p) (hk : I [7, p, j] 0 = 116) : xM l yX6_refuseOtherThanTask (xws yX6_refuseOtherThanTask cX6_refuseOtherThanTask 1 none) 1 12 g [.ref (ga g [7, p, j])] (xR g (xD h) I (xFh h) n) none (xR g (xD h) I (xFh h) n) 0 0 := by
  refine xM.of (by decide) (Nat.le_of_ble_eq_true rfl) ?_
  intro P_ e_ s m_ bl_ mt_ cd_ ls hx hb hr hown hlocks hml hnm hE hK hts hH hS hl
  have hl : lv_has ls 1 [(0, .ref (ga g [7, p, j]))] := hl
  refine lv_aload_n hx hb dX6_refuseOtherThanTask_0 rfl (lv_at hl 0 rfl) ?_
  refine x_get (C := RX5) (T := TX5) (N := 7) (ci := 5) hx hb hts iu5 hown hK hH (id := [7, p, j]) (by first | trivial | (simp only [xD]; omega) | (simp [xD]; done) | (simp [xD]; omega)) rfl rfl (by decide) 0 (by decide) (hts _ tw326) (fun _ h9 => h9) rfl (v := .int (I [7, p, j] 0)) rfl dX6_refuseOtherThanTask_1 ?_
  refine lv_bipush (v := 116) hx hb dX6_refuseOtherThanTask_4 (by decide) ?_
  refine lv_icmp_eq (tgt := 20) hx hb dX6_refuseOtherThanTask_6 (by decide) (fun _ => ?_) (fun q_ => absurd hk q_)
  exact x_vret hx hb hr hlocks hS dX6_refuseOtherThanTask_20 hH

set_option maxHeartbeats 1000000 in
set_option maxRecDepth 100000 in
theorem t_X6_refuseOtherThanTask (l : Launch) (hst : l.stackTraces = false) (g : xG) (h : xS) (I : xI) (n : Nat) (p j : Nat) (hpp : p < sNp h) (hj : j < sSz h p) (hk : ¬ I [7, p, j] 0 = 116) : xTc l yX6_refuseOtherThanTask (xws yX6_refuseOtherThanTask cX6_refuseOtherThanTask 1 none) 6 90 g [.ref (ga g [7, p, j])] (xR g (xD h) I (xFh h) n) eUO (xG_ g (xD h) I (xFh h) n) 1 6 := by
  refine xTc.of (by decide) (Nat.le_of_ble_eq_true rfl) ?_
  intro P_ e_ s m_ bl_ mt_ cd_ ls hx hb hr hown hlocks hml hout hE hK hts hH hS hl
  have hl : lv_has ls 1 [(0, .ref (ga g [7, p, j]))] := hl
  refine lv_aload_n hx hb dX6_refuseOtherThanTask_0 rfl (lv_at hl 0 rfl) ?_
  refine x_get (C := RX5) (T := TX5) (N := 7) (ci := 5) hx hb hts iu5 hown hK hH (id := [7, p, j]) (by first | trivial | (simp only [xD]; omega) | (simp [xD]; done) | (simp [xD]; omega)) rfl rfl (by decide) 0 (by decide) (hts _ tw326) (fun _ h9 => h9) rfl (v := .int (I [7, p, j] 0)) rfl dX6_refuseOtherThanTask_1 ?_
  refine lv_bipush (v := 116) hx hb dX6_refuseOtherThanTask_4 (by decide) ?_
  refine lv_icmp_eq (tgt := 20) hx hb dX6_refuseOtherThanTask_6 (by decide) (fun q_ => absurd q_ hk) (fun _ => ?_)
  exact x_thrW (text := "the step is not a task") hx hb hst hown hE hS hH (hl.1.trans hml.symm) thUO (List.mem_of_getElem? (i := 10) rfl) dX6_refuseOtherThanTask_9 dX6_refuseOtherThanTask_12 dX6_refuseOtherThanTask_13 dX6_refuseOtherThanTask_16 dX6_refuseOtherThanTask_19 hout hlocks (Nat.le_of_ble_eq_true rfl) (Nat.le_of_ble_eq_true rfl) (Nat.le_of_ble_eq_true rfl) (Nat.le_of_ble_eq_true rfl) (Nat.le_of_ble_eq_true rfl) (Nat.le_of_ble_eq_true rfl) (fun _ hq => hq)

def sVl (b : Int32) : Bool := !decide (b < -99) && !decide (99 < b)
def sCond (n : Nat) (s a b : Int32) : Bool := if s = 100 ∨ s = 108 then sIn a 0 4 && sVl b else if s = 101 then sIn a 0 10 else if s = 99 then sIn a 0 (nI n) else decide (s = 116) && (!decide (a < 0) && !decide (999 < a))
theorem sIn_lo {x hi : Int32} (h : x < 0) : sIn x 0 hi = false := by unfold sIn; rw [decide_eq_true h]; rfl
theorem sIn_hi {x hi : Int32} (h : hi ≤ x) : sIn x 0 hi = false := by unfold sIn; rw [decide_eq_true h]; simp
theorem b01_or {b : Bool} {r : Int32} (h : (r = 1 ∧ b = true) ∨ (r = 0 ∧ b = false)) : r = b01 b := by rcases h with ⟨rfl, rfl⟩ | ⟨rfl, rfl⟩ <;> rfl
set_option maxHeartbeats 1000000 in
set_option maxRecDepth 100000 in
theorem c_X6_isCondition (l : Launch) (g : xG) (h : xS) (I : xI) (n : Nat) (p : Nat) (so a b : Int32) (hpp : p < sNp h) (h8 : sSz h p ≤ 8) (hz : I [5, p] 2 = nI (sSz h p)) : xM l yX6_isCondition (xws yX6_isCondition cX6_isCondition 4 (some FieldType.boolean)) 2 33 g [.ref (ga g [5, p]), .int so, .int a, .int b] (xR g (xD h) I (xFh h) n) (some (.int (b01 (sCond (sSz h p) so a b)))) (xR g (xD h) I (xFh h) n) 0 0 := by
  refine xM.of (by decide) (Nat.le_of_ble_eq_true rfl) ?_
  intro P_ e_ s m_ bl_ mt_ cd_ ls hx hb hr hown hlocks hml hnm hE hK hts hH hS hl
  have hl : lv_has ls 4 [(0, .ref (ga g [5, p])), (1, .int so), (2, .int a), (3, .int b)] := hl
  refine lv_iload_n hx hb dX6_isCondition_0 rfl (lv_at hl 1 rfl) ?_
  refine lv_bipush (v := 100) hx hb dX6_isCondition_1 (by decide) ?_
  refine lv_icmp_eq (tgt := 12) hx hb dX6_isCondition_3 (by decide) (fun c_3 => ?_) (fun c_3 => ?_)
  · skip
    refine lv_iload_n hx hb dX6_isCondition_12 rfl (lv_at hl 2 rfl) ?_
    refine x_S1 hx hb hml hown hE hS hl.1 cyX6_isDatum tw383 (c_X6_isDatum l g h I n a) ⟨Nat.le_of_ble_eq_true rfl, Nat.le_of_ble_eq_true rfl⟩ ⟨Nat.le_of_ble_eq_true rfl, Nat.le_of_ble_eq_true rfl⟩ hH rfl rfl (Nat.le_of_ble_eq_true rfl) dX6_isCondition_13 (fun H locs hH hS => ?_)
    refine lv_if_eq (tgt := 30) hx hb dX6_isCondition_16 (by decide) (fun c_16 => ?_) (fun c_16 => ?_)
    · skip
      refine lv_iconst (v := 0) hx hb dX6_isCondition_30 (by decide) ?_
      exact x_zret hx hb hr hlocks hS dX6_isCondition_31 rfl (b01_f (by rw [sCond, if_pos (by first | exact Or.inl c_3 | exact Or.inr c_9), (b01_eq0 _).mp c_16]; rfl)) hH
    · skip
      refine lv_iload_n hx hb dX6_isCondition_19 rfl (lv_at hl 3 rfl) ?_
      refine x_S1 hx hb hml hown hE hS hl.1 cyX6_isValue tw386 (c_X6_isValue l g h I n b) ⟨Nat.le_of_ble_eq_true rfl, Nat.le_of_ble_eq_true rfl⟩ ⟨Nat.le_of_ble_eq_true rfl, Nat.le_of_ble_eq_true rfl⟩ hH rfl rfl (Nat.le_of_ble_eq_true rfl) dX6_isCondition_20 (fun H locs hH hS => ?_)
      refine lv_if_eq (tgt := 30) hx hb dX6_isCondition_23 (by decide) (fun c_23 => ?_) (fun c_23 => ?_)
      · skip
        refine lv_iconst (v := 0) hx hb dX6_isCondition_30 (by decide) ?_
        exact x_zret hx hb hr hlocks hS dX6_isCondition_31 rfl (b01_f (by rw [sCond, if_pos (by first | exact Or.inl c_3 | exact Or.inr c_9), show sVl b = false from (b01_eq0 _).mp c_23]; exact Bool.and_false _)) hH
      · skip
        refine lv_iconst (v := 1) hx hb dX6_isCondition_26 (by decide) ?_
        refine lv_goto (tgt := 31) hx hb dX6_isCondition_27 (by decide) ?_
        exact x_zret hx hb hr hlocks hS dX6_isCondition_31 rfl (b01_t (by rw [sCond, if_pos (by first | exact Or.inl c_3 | exact Or.inr c_9), b01_ne0 c_16, show sVl b = true from b01_ne0 c_23]; rfl)) hH
  · skip
    refine lv_iload_n hx hb dX6_isCondition_6 rfl (lv_at hl 1 rfl) ?_
    refine lv_bipush (v := 108) hx hb dX6_isCondition_7 (by decide) ?_
    refine lv_icmp_ne (tgt := 32) hx hb dX6_isCondition_9 (by decide) (fun c_9 => ?_) (fun c_9 => ?_)
    · skip
      refine lv_iload_n hx hb dX6_isCondition_32 rfl (lv_at hl 1 rfl) ?_
      refine lv_bipush (v := 101) hx hb dX6_isCondition_33 (by decide) ?_
      refine lv_icmp_ne (tgt := 43) hx hb dX6_isCondition_35 (by decide) (fun c_35 => ?_) (fun c_35 => ?_)
      · skip
        refine lv_iload_n hx hb dX6_isCondition_43 rfl (lv_at hl 1 rfl) ?_
        refine lv_bipush (v := 99) hx hb dX6_isCondition_44 (by decide) ?_
        refine lv_icmp_ne (tgt := 63) hx hb dX6_isCondition_46 (by decide) (fun c_46 => ?_) (fun c_46 => ?_)
        · skip
          refine lv_iload_n hx hb dX6_isCondition_63 rfl (lv_at hl 1 rfl) ?_
          refine lv_bipush (v := 116) hx hb dX6_isCondition_64 (by decide) ?_
          refine lv_icmp_ne (tgt := 84) hx hb dX6_isCondition_66 (by decide) (fun c_66 => ?_) (fun c_66 => ?_)
          · skip
            refine lv_iconst (v := 0) hx hb dX6_isCondition_84 (by decide) ?_
            exact x_zret hx hb hr hlocks hS dX6_isCondition_85 rfl (b01_f (by rw [sCond, if_neg (fun z_ => z_.elim c_3 c_9), if_neg c_35, if_neg c_46]; simp [c_66])) hH
          · skip
            refine lv_iload_n hx hb dX6_isCondition_69 rfl (lv_at hl 2 rfl) ?_
            refine lv_if_lt (tgt := 84) hx hb dX6_isCondition_70 (by decide) (fun c_70 => ?_) (fun c_70 => ?_)
            · skip
              refine lv_iconst (v := 0) hx hb dX6_isCondition_84 (by decide) ?_
              exact x_zret hx hb hr hlocks hS dX6_isCondition_85 rfl (b01_f (by rw [sCond, if_neg (fun z_ => z_.elim c_3 c_9), if_neg c_35, if_neg c_46]; simp [c_70])) hH
            · skip
              refine lv_iload_n hx hb dX6_isCondition_73 rfl (lv_at hl 2 rfl) ?_
              refine lv_sipush (v := 999) hx hb dX6_isCondition_74 (by decide) ?_
              refine lv_icmp_gt (tgt := 84) hx hb dX6_isCondition_77 (by decide) (fun c_77 => ?_) (fun c_77 => ?_)
              · skip
                refine lv_iconst (v := 0) hx hb dX6_isCondition_84 (by decide) ?_
                exact x_zret hx hb hr hlocks hS dX6_isCondition_85 rfl (b01_f (by rw [sCond, if_neg (fun z_ => z_.elim c_3 c_9), if_neg c_35, if_neg c_46]; simp [c_77])) hH
              · skip
                refine lv_iconst (v := 1) hx hb dX6_isCondition_80 (by decide) ?_
                refine lv_goto (tgt := 85) hx hb dX6_isCondition_81 (by decide) ?_
                exact x_zret hx hb hr hlocks hS dX6_isCondition_85 rfl (b01_t (by rw [sCond, if_neg (fun z_ => z_.elim c_3 c_9), if_neg c_35, if_neg c_46]; simp [c_66, c_70, c_77])) hH
        · skip
          rcases pk_ix a (n := sSz h p) (by omega) with ha | ha | ⟨j, hj, ha⟩
          · skip
            refine lv_aload_n hx hb dX6_isCondition_49 rfl (lv_at hl 0 rfl) ?_
            refine lv_iload_n hx hb dX6_isCondition_50 rfl (lv_at hl 2 rfl) ?_
            refine x_V1 hx hb hml hown hE hS hl.1 cyX4_stepAt tw375 (c_X4_stepAt_no l g h I n p a (Or.inl hpp) hz (Or.inl ha)) ⟨Nat.le_of_ble_eq_true rfl, Nat.le_of_ble_eq_true rfl⟩ ⟨Nat.le_of_ble_eq_true rfl, Nat.le_of_ble_eq_true rfl⟩ (x_recv hK hH (id := [5, p]) (by first | trivial | (simp only [xD]; omega) | (simp [xD]; done) | (simp [xD]; omega)) (ci := 4) rfl (by decide) rfl) hH rfl rfl (Nat.le_of_ble_eq_true rfl) dX6_isCondition_51 (fun H locs hH hS => ?_)
            refine lv_ifnullN (tgt := 61) hx hb dX6_isCondition_54 (by decide) ?_
            refine lv_iconst (v := 0) hx hb dX6_isCondition_61 (by decide) ?_
            exact x_zret hx hb hr hlocks hS dX6_isCondition_62 rfl (b01_f (by rw [sCond, if_neg (fun z_ => z_.elim c_3 c_9), if_neg c_35, if_pos c_46]; exact sIn_lo ha)) hH
          · skip
            refine lv_aload_n hx hb dX6_isCondition_49 rfl (lv_at hl 0 rfl) ?_
            refine lv_iload_n hx hb dX6_isCondition_50 rfl (lv_at hl 2 rfl) ?_
            refine x_V1 hx hb hml hown hE hS hl.1 cyX4_stepAt tw375 (c_X4_stepAt_no l g h I n p a (Or.inl hpp) hz (Or.inr ha)) ⟨Nat.le_of_ble_eq_true rfl, Nat.le_of_ble_eq_true rfl⟩ ⟨Nat.le_of_ble_eq_true rfl, Nat.le_of_ble_eq_true rfl⟩ (x_recv hK hH (id := [5, p]) (by first | trivial | (simp only [xD]; omega) | (simp [xD]; done) | (simp [xD]; omega)) (ci := 4) rfl (by decide) rfl) hH rfl rfl (Nat.le_of_ble_eq_true rfl) dX6_isCondition_51 (fun H locs hH hS => ?_)
            refine lv_ifnullN (tgt := 61) hx hb dX6_isCondition_54 (by decide) ?_
            refine lv_iconst (v := 0) hx hb dX6_isCondition_61 (by decide) ?_
            exact x_zret hx hb hr hlocks hS dX6_isCondition_62 rfl (b01_f (by rw [sCond, if_neg (fun z_ => z_.elim c_3 c_9), if_neg c_35, if_pos c_46]; exact sIn_hi ha)) hH
          · skip
            refine lv_aload_n hx hb dX6_isCondition_49 rfl (lv_at hl 0 rfl) ?_
            refine lv_iload_n hx hb dX6_isCondition_50 rfl (lv_at hl 2 rfl) ?_
            refine x_V1 hx hb hml hown hE hS hl.1 cyX4_stepAt tw375 ((show xM l yX4_stepAt (xws yX4_stepAt cX4_stepAt 2 (some (.object "CasebookSteps$Step"))) 1 12 g [.ref (ga g [5, p]), .int a] (xR g (xD h) I (xFh h) n) (some (.ref (ga g [7, p, j]))) (xR g (xD h) I (xFh h) n) 0 0 from by rw [ha]; exact c_X4_stepAt l g h I n p j hpp hj h8 hz)) ⟨Nat.le_of_ble_eq_true rfl, Nat.le_of_ble_eq_true rfl⟩ ⟨Nat.le_of_ble_eq_true rfl, Nat.le_of_ble_eq_true rfl⟩ (x_recv hK hH (id := [5, p]) (by first | trivial | (simp only [xD]; omega) | (simp [xD]; done) | (simp [xD]; omega)) (ci := 4) rfl (by decide) rfl) hH rfl rfl (Nat.le_of_ble_eq_true rfl) dX6_isCondition_51 (fun H locs hH hS => ?_)
            refine lv_ifnull hx hb dX6_isCondition_54 ?_
            refine lv_iconst (v := 1) hx hb dX6_isCondition_57 (by decide) ?_
            refine lv_goto (tgt := 62) hx hb dX6_isCondition_58 (by decide) ?_
            exact x_zret hx hb hr hlocks hS dX6_isCondition_62 rfl (b01_t (by rw [sCond, if_neg (fun z_ => z_.elim c_3 c_9), if_neg c_35, if_pos c_46]; exact (by rw [ha]; exact sIn_nI hj (by omega)))) hH
      · skip
        refine lv_iload_n hx hb dX6_isCondition_38 rfl (lv_at hl 2 rfl) ?_
        refine x_S1 hx hb hml hown hE hS hl.1 cyX6_isEvent tw389 (c_X6_isEvent l g h I n a) ⟨Nat.le_of_ble_eq_true rfl, Nat.le_of_ble_eq_true rfl⟩ ⟨Nat.le_of_ble_eq_true rfl, Nat.le_of_ble_eq_true rfl⟩ hH rfl rfl (Nat.le_of_ble_eq_true rfl) dX6_isCondition_39 (fun H locs hH hS => ?_)
        exact x_zret hx hb hr hlocks hS dX6_isCondition_42 (b01_nar _) (by rw [sCond, if_neg (fun z_ => z_.elim c_3 c_9), if_pos c_35]) hH
    · skip
      refine lv_iload_n hx hb dX6_isCondition_12 rfl (lv_at hl 2 rfl) ?_
      refine x_S1 hx hb hml hown hE hS hl.1 cyX6_isDatum tw383 (c_X6_isDatum l g h I n a) ⟨Nat.le_of_ble_eq_true rfl, Nat.le_of_ble_eq_true rfl⟩ ⟨Nat.le_of_ble_eq_true rfl, Nat.le_of_ble_eq_true rfl⟩ hH rfl rfl (Nat.le_of_ble_eq_true rfl) dX6_isCondition_13 (fun H locs hH hS => ?_)
      refine lv_if_eq (tgt := 30) hx hb dX6_isCondition_16 (by decide) (fun c_16 => ?_) (fun c_16 => ?_)
      · skip
        refine lv_iconst (v := 0) hx hb dX6_isCondition_30 (by decide) ?_
        exact x_zret hx hb hr hlocks hS dX6_isCondition_31 rfl (b01_f (by rw [sCond, if_pos (by first | exact Or.inl c_3 | exact Or.inr c_9), (b01_eq0 _).mp c_16]; rfl)) hH
      · skip
        refine lv_iload_n hx hb dX6_isCondition_19 rfl (lv_at hl 3 rfl) ?_
        refine x_S1 hx hb hml hown hE hS hl.1 cyX6_isValue tw386 (c_X6_isValue l g h I n b) ⟨Nat.le_of_ble_eq_true rfl, Nat.le_of_ble_eq_true rfl⟩ ⟨Nat.le_of_ble_eq_true rfl, Nat.le_of_ble_eq_true rfl⟩ hH rfl rfl (Nat.le_of_ble_eq_true rfl) dX6_isCondition_20 (fun H locs hH hS => ?_)
        refine lv_if_eq (tgt := 30) hx hb dX6_isCondition_23 (by decide) (fun c_23 => ?_) (fun c_23 => ?_)
        · skip
          refine lv_iconst (v := 0) hx hb dX6_isCondition_30 (by decide) ?_
          exact x_zret hx hb hr hlocks hS dX6_isCondition_31 rfl (b01_f (by rw [sCond, if_pos (by first | exact Or.inl c_3 | exact Or.inr c_9), show sVl b = false from (b01_eq0 _).mp c_23]; exact Bool.and_false _)) hH
        · skip
          refine lv_iconst (v := 1) hx hb dX6_isCondition_26 (by decide) ?_
          refine lv_goto (tgt := 31) hx hb dX6_isCondition_27 (by decide) ?_
          exact x_zret hx hb hr hlocks hS dX6_isCondition_31 rfl (b01_t (by rw [sCond, if_pos (by first | exact Or.inl c_3 | exact Or.inr c_9), b01_ne0 c_16, show sVl b = true from b01_ne0 c_23]; rfl)) hH

set_option maxHeartbeats 1000000 in
set_option maxRecDepth 100000 in
theorem c_X6_refuseWrongCondition (l : Launch) (g : xG) (h : xS) (I : xI) (n : Nat) (p : Nat) (so a b : Int32) (hpp : p < sNp h) (h8 : sSz h p ≤ 8) (hz : I [5, p] 2 = nI (sSz h p)) (hc : sCond (sSz h p) so a b = true) : xM l yX6_refuseWrongCondition (xws yX6_refuseWrongCondition cX6_refuseWrongCondition 4 none) 3 56 g [.ref (ga g [5, p]), .int so, .int a, .int b] (xR g (xD h) I (xFh h) n) none (xR g (xD h) I (xFh h) n) 0 0 := by
  refine xM.of (by decide) (Nat.le_of_ble_eq_true rfl) ?_
  intro P_ e_ s m_ bl_ mt_ cd_ ls hx hb hr hown hlocks hml hnm hE hK hts hH hS hl
  have hl : lv_has ls 4 [(0, .ref (ga g [5, p])), (1, .int so), (2, .int a), (3, .int b)] := hl
  refine lv_aload_n hx hb dX6_refuseWrongCondition_0 rfl (lv_at hl 0 rfl) ?_
  refine lv_iload_n hx hb dX6_refuseWrongCondition_1 rfl (lv_at hl 1 rfl) ?_
  refine lv_iload_n hx hb dX6_refuseWrongCondition_2 rfl (lv_at hl 2 rfl) ?_
  refine lv_iload_n hx hb dX6_refuseWrongCondition_3 rfl (lv_at hl 3 rfl) ?_
  refine x_S1 hx hb hml hown hE hS hl.1 cyX6_isCondition tw380 (c_X6_isCondition l g h I n p so a b hpp h8 hz) ⟨Nat.le_of_ble_eq_true rfl, Nat.le_of_ble_eq_true rfl⟩ ⟨Nat.le_of_ble_eq_true rfl, Nat.le_of_ble_eq_true rfl⟩ hH rfl rfl (Nat.le_of_ble_eq_true rfl) dX6_refuseWrongCondition_4 (fun H locs hH hS => ?_)
  refine lv_if_ne (tgt := 21) hx hb dX6_refuseWrongCondition_7 (by decide) (fun _ => ?_) (fun q_ => absurd q_ (fun z_ => by rw [hc] at z_; cases z_))
  exact x_vret hx hb hr hlocks hS dX6_refuseWrongCondition_21 hH

set_option maxHeartbeats 1000000 in
set_option maxRecDepth 100000 in
theorem t_X6_refuseWrongCondition (l : Launch) (hst : l.stackTraces = false) (g : xG) (h : xS) (I : xI) (n : Nat) (p : Nat) (so a b : Int32) (hpp : p < sNp h) (h8 : sSz h p ≤ 8) (hz : I [5, p] 2 = nI (sSz h p)) (hc : sCond (sSz h p) so a b = false) : xTc l yX6_refuseWrongCondition (xws yX6_refuseWrongCondition cX6_refuseWrongCondition 4 none) 6 90 g [.ref (ga g [5, p]), .int so, .int a, .int b] (xR g (xD h) I (xFh h) n) eIA (xG_ g (xD h) I (xFh h) n) 1 6 := by
  refine xTc.of (by decide) (Nat.le_of_ble_eq_true rfl) ?_
  intro P_ e_ s m_ bl_ mt_ cd_ ls hx hb hr hown hlocks hml hout hE hK hts hH hS hl
  have hl : lv_has ls 4 [(0, .ref (ga g [5, p])), (1, .int so), (2, .int a), (3, .int b)] := hl
  refine lv_aload_n hx hb dX6_refuseWrongCondition_0 rfl (lv_at hl 0 rfl) ?_
  refine lv_iload_n hx hb dX6_refuseWrongCondition_1 rfl (lv_at hl 1 rfl) ?_
  refine lv_iload_n hx hb dX6_refuseWrongCondition_2 rfl (lv_at hl 2 rfl) ?_
  refine lv_iload_n hx hb dX6_refuseWrongCondition_3 rfl (lv_at hl 3 rfl) ?_
  refine x_S1 hx hb hml hown hE hS hl.1 cyX6_isCondition tw380 (c_X6_isCondition l g h I n p so a b hpp h8 hz) ⟨Nat.le_of_ble_eq_true rfl, Nat.le_of_ble_eq_true rfl⟩ ⟨Nat.le_of_ble_eq_true rfl, Nat.le_of_ble_eq_true rfl⟩ hH rfl rfl (Nat.le_of_ble_eq_true rfl) dX6_refuseWrongCondition_4 (fun H locs hH hS => ?_)
  refine lv_if_ne (tgt := 21) hx hb dX6_refuseWrongCondition_7 (by decide) (fun q_ => absurd q_ (fun z_ => z_ (by rw [hc]; rfl))) (fun _ => ?_)
  exact x_thrW (text := "no such condition") hx hb hst hown hE hS hH (hl.1.trans hml.symm) thIA (List.mem_of_getElem? (i := 7) rfl) dX6_refuseWrongCondition_10 dX6_refuseWrongCondition_13 dX6_refuseWrongCondition_14 dX6_refuseWrongCondition_17 dX6_refuseWrongCondition_20 hout hlocks (Nat.le_of_ble_eq_true rfl) (Nat.le_of_ble_eq_true rfl) (Nat.le_of_ble_eq_true rfl) (Nat.le_of_ble_eq_true rfl) (Nat.le_of_ble_eq_true rfl) (Nat.le_of_ble_eq_true rfl) (fun _ hq => hq)
