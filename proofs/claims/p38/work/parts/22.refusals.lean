/-! CONTRACTS: the public methods, where they throw -/
set_option maxHeartbeats 1000000 in
set_option maxRecDepth 100000 in
theorem t_X6_addStep_p (l : Launch) (hst : l.stackTraces = false) (g : xG) (h : xS) (I : xI) (n : Nat) (hW : xWs0 h I) (x : Int32) (hx0 : x < 0 ∨ nI (sNp h) ≤ x) (y0 y1 : Int32)  : xTc l yX6_addStep (xws yX6_addStep cX6_addStep 5 (some FieldType.int)) 7 112 g [.ref (ga g [0]), .int x, .int y0, .int y1] (xR g (xD h) I (xFh h) n) eIO (xG_ g (xD h) I (xFh h) n) 1 6 := by
  refine xTc.of (by decide) (Nat.le_of_ble_eq_true rfl) ?_
  intro P_ e_ s m_ bl_ mt_ cd_ ls hx hb hr hown hlocks hml hout hE hK hts hH hS hl
  have hl : lv_has ls 5 [(0, .ref (ga g [0])), (1, .int x), (2, .int y0), (3, .int y1)] := hl
  refine lv_aload_n hx hb dX6_addStep_0 rfl (lv_at hl 0 rfl) ?_
  refine lv_iload_n hx hb dX6_addStep_1 rfl (lv_at hl 1 rfl) ?_
  exact x_outT (x_VT hx hb hml hown hE hS hl.1 cyX6_existingPlan tw247 (t_X6_existingPlan l hst g h I n x hW.2.1 hx0) ⟨Nat.le_of_ble_eq_true rfl, Nat.le_of_ble_eq_true rfl⟩ ⟨Nat.le_of_ble_eq_true rfl, Nat.le_of_ble_eq_true rfl⟩ (x_recv hK hH (id := [0]) (by first | trivial | (simp only [xD]; omega) | (simp [xD]; done) | (simp [xD]; omega)) (ci := 6) rfl (by decide) rfl) hH rfl rfl (Nat.le_of_ble_eq_true rfl) dX6_addStep_2) hS hout hlocks (fun _ hq => hq) (Nat.le_of_ble_eq_true rfl) (Nat.le_of_ble_eq_true rfl)

set_option maxHeartbeats 1000000 in
set_option maxRecDepth 100000 in
theorem t_X6_addEntry_p (l : Launch) (hst : l.stackTraces = false) (g : xG) (h : xS) (I : xI) (n : Nat) (hW : xWs0 h I) (x : Int32) (hx0 : x < 0 ∨ nI (sNp h) ≤ x) (y0 y1 y2 y3 : Int32)  : xTc l yX6_addEntry (xws yX6_addEntry cX6_addEntry 8 (some FieldType.int)) 7 112 g [.ref (ga g [0]), .int x, .int y0, .int y1, .int y2, .int y3] (xR g (xD h) I (xFh h) n) eIO (xG_ g (xD h) I (xFh h) n) 1 6 := by
  refine xTc.of (by decide) (Nat.le_of_ble_eq_true rfl) ?_
  intro P_ e_ s m_ bl_ mt_ cd_ ls hx hb hr hown hlocks hml hout hE hK hts hH hS hl
  have hl : lv_has ls 8 [(0, .ref (ga g [0])), (1, .int x), (2, .int y0), (3, .int y1), (4, .int y2), (5, .int y3)] := hl
  refine lv_aload_n hx hb dX6_addEntry_0 rfl (lv_at hl 0 rfl) ?_
  refine lv_iload_n hx hb dX6_addEntry_1 rfl (lv_at hl 1 rfl) ?_
  exact x_outT (x_VT hx hb hml hown hE hS hl.1 cyX6_existingPlan tw247 (t_X6_existingPlan l hst g h I n x hW.2.1 hx0) ⟨Nat.le_of_ble_eq_true rfl, Nat.le_of_ble_eq_true rfl⟩ ⟨Nat.le_of_ble_eq_true rfl, Nat.le_of_ble_eq_true rfl⟩ (x_recv hK hH (id := [0]) (by first | trivial | (simp only [xD]; omega) | (simp [xD]; done) | (simp [xD]; omega)) (ci := 6) rfl (by decide) rfl) hH rfl rfl (Nat.le_of_ble_eq_true rfl) dX6_addEntry_2) hS hout hlocks (fun _ hq => hq) (Nat.le_of_ble_eq_true rfl) (Nat.le_of_ble_eq_true rfl)

set_option maxHeartbeats 1000000 in
set_option maxRecDepth 100000 in
theorem t_X6_addExit_p (l : Launch) (hst : l.stackTraces = false) (g : xG) (h : xS) (I : xI) (n : Nat) (hW : xWs0 h I) (x : Int32) (hx0 : x < 0 ∨ nI (sNp h) ≤ x) (y0 y1 y2 y3 : Int32)  : xTc l yX6_addExit (xws yX6_addExit cX6_addExit 8 (some FieldType.int)) 7 112 g [.ref (ga g [0]), .int x, .int y0, .int y1, .int y2, .int y3] (xR g (xD h) I (xFh h) n) eIO (xG_ g (xD h) I (xFh h) n) 1 6 := by
  refine xTc.of (by decide) (Nat.le_of_ble_eq_true rfl) ?_
  intro P_ e_ s m_ bl_ mt_ cd_ ls hx hb hr hown hlocks hml hout hE hK hts hH hS hl
  have hl : lv_has ls 8 [(0, .ref (ga g [0])), (1, .int x), (2, .int y0), (3, .int y1), (4, .int y2), (5, .int y3)] := hl
  refine lv_aload_n hx hb dX6_addExit_0 rfl (lv_at hl 0 rfl) ?_
  refine lv_iload_n hx hb dX6_addExit_1 rfl (lv_at hl 1 rfl) ?_
  exact x_outT (x_VT hx hb hml hown hE hS hl.1 cyX6_existingPlan tw247 (t_X6_existingPlan l hst g h I n x hW.2.1 hx0) ⟨Nat.le_of_ble_eq_true rfl, Nat.le_of_ble_eq_true rfl⟩ ⟨Nat.le_of_ble_eq_true rfl, Nat.le_of_ble_eq_true rfl⟩ (x_recv hK hH (id := [0]) (by first | trivial | (simp only [xD]; omega) | (simp [xD]; done) | (simp [xD]; omega)) (ci := 6) rfl (by decide) rfl) hH rfl rfl (Nat.le_of_ble_eq_true rfl) dX6_addExit_2) hS hout hlocks (fun _ hq => hq) (Nat.le_of_ble_eq_true rfl) (Nat.le_of_ble_eq_true rfl)

set_option maxHeartbeats 1000000 in
set_option maxRecDepth 100000 in
theorem t_X6_setRequired_p (l : Launch) (hst : l.stackTraces = false) (g : xG) (h : xS) (I : xI) (n : Nat) (hW : xWs0 h I) (x : Int32) (hx0 : x < 0 ∨ nI (sNp h) ≤ x) (y0 y1 : Int32)  : xTc l yX6_setRequired (xws yX6_setRequired cX6_setRequired 7 (some FieldType.boolean)) 7 112 g [.ref (ga g [0]), .int x, .int y0, .int y1] (xR g (xD h) I (xFh h) n) eIO (xG_ g (xD h) I (xFh h) n) 1 6 := by
  refine xTc.of (by decide) (Nat.le_of_ble_eq_true rfl) ?_
  intro P_ e_ s m_ bl_ mt_ cd_ ls hx hb hr hown hlocks hml hout hE hK hts hH hS hl
  have hl : lv_has ls 7 [(0, .ref (ga g [0])), (1, .int x), (2, .int y0), (3, .int y1)] := hl
  refine lv_aload_n hx hb dX6_setRequired_0 rfl (lv_at hl 0 rfl) ?_
  refine lv_iload_n hx hb dX6_setRequired_1 rfl (lv_at hl 1 rfl) ?_
  exact x_outT (x_VT hx hb hml hown hE hS hl.1 cyX6_existingPlan tw247 (t_X6_existingPlan l hst g h I n x hW.2.1 hx0) ⟨Nat.le_of_ble_eq_true rfl, Nat.le_of_ble_eq_true rfl⟩ ⟨Nat.le_of_ble_eq_true rfl, Nat.le_of_ble_eq_true rfl⟩ (x_recv hK hH (id := [0]) (by first | trivial | (simp only [xD]; omega) | (simp [xD]; done) | (simp [xD]; omega)) (ci := 6) rfl (by decide) rfl) hH rfl rfl (Nat.le_of_ble_eq_true rfl) dX6_setRequired_2) hS hout hlocks (fun _ hq => hq) (Nat.le_of_ble_eq_true rfl) (Nat.le_of_ble_eq_true rfl)

set_option maxHeartbeats 1000000 in
set_option maxRecDepth 100000 in
theorem t_X6_setLimit_p (l : Launch) (hst : l.stackTraces = false) (g : xG) (h : xS) (I : xI) (n : Nat) (hW : xWs0 h I) (x : Int32) (hx0 : x < 0 ∨ nI (sNp h) ≤ x) (y0 y1 : Int32)  : xTc l yX6_setLimit (xws yX6_setLimit cX6_setLimit 7 (some FieldType.int)) 7 112 g [.ref (ga g [0]), .int x, .int y0, .int y1] (xR g (xD h) I (xFh h) n) eIO (xG_ g (xD h) I (xFh h) n) 1 6 := by
  refine xTc.of (by decide) (Nat.le_of_ble_eq_true rfl) ?_
  intro P_ e_ s m_ bl_ mt_ cd_ ls hx hb hr hown hlocks hml hout hE hK hts hH hS hl
  have hl : lv_has ls 7 [(0, .ref (ga g [0])), (1, .int x), (2, .int y0), (3, .int y1)] := hl
  refine lv_aload_n hx hb dX6_setLimit_0 rfl (lv_at hl 0 rfl) ?_
  refine lv_iload_n hx hb dX6_setLimit_1 rfl (lv_at hl 1 rfl) ?_
  exact x_outT (x_VT hx hb hml hown hE hS hl.1 cyX6_existingPlan tw247 (t_X6_existingPlan l hst g h I n x hW.2.1 hx0) ⟨Nat.le_of_ble_eq_true rfl, Nat.le_of_ble_eq_true rfl⟩ ⟨Nat.le_of_ble_eq_true rfl, Nat.le_of_ble_eq_true rfl⟩ (x_recv hK hH (id := [0]) (by first | trivial | (simp only [xD]; omega) | (simp [xD]; done) | (simp [xD]; omega)) (ci := 6) rfl (by decide) rfl) hH rfl rfl (Nat.le_of_ble_eq_true rfl) dX6_setLimit_2) hS hout hlocks (fun _ hq => hq) (Nat.le_of_ble_eq_true rfl) (Nat.le_of_ble_eq_true rfl)

set_option maxHeartbeats 1000000 in
set_option maxRecDepth 100000 in
theorem t_X6_setAgain_p (l : Launch) (hst : l.stackTraces = false) (g : xG) (h : xS) (I : xI) (n : Nat) (hW : xWs0 h I) (x : Int32) (hx0 : x < 0 ∨ nI (sNp h) ≤ x) (y0 y1 : Int32)  : xTc l yX6_setAgain (xws yX6_setAgain cX6_setAgain 7 (some FieldType.boolean)) 7 112 g [.ref (ga g [0]), .int x, .int y0, .int y1] (xR g (xD h) I (xFh h) n) eIO (xG_ g (xD h) I (xFh h) n) 1 6 := by
  refine xTc.of (by decide) (Nat.le_of_ble_eq_true rfl) ?_
  intro P_ e_ s m_ bl_ mt_ cd_ ls hx hb hr hown hlocks hml hout hE hK hts hH hS hl
  have hl : lv_has ls 7 [(0, .ref (ga g [0])), (1, .int x), (2, .int y0), (3, .int y1)] := hl
  refine lv_aload_n hx hb dX6_setAgain_0 rfl (lv_at hl 0 rfl) ?_
  refine lv_iload_n hx hb dX6_setAgain_1 rfl (lv_at hl 1 rfl) ?_
  exact x_outT (x_VT hx hb hml hown hE hS hl.1 cyX6_existingPlan tw247 (t_X6_existingPlan l hst g h I n x hW.2.1 hx0) ⟨Nat.le_of_ble_eq_true rfl, Nat.le_of_ble_eq_true rfl⟩ ⟨Nat.le_of_ble_eq_true rfl, Nat.le_of_ble_eq_true rfl⟩ (x_recv hK hH (id := [0]) (by first | trivial | (simp only [xD]; omega) | (simp [xD]; done) | (simp [xD]; omega)) (ci := 6) rfl (by decide) rfl) hH rfl rfl (Nat.le_of_ble_eq_true rfl) dX6_setAgain_2) hS hout hlocks (fun _ hq => hq) (Nat.le_of_ble_eq_true rfl) (Nat.le_of_ble_eq_true rfl)

set_option maxHeartbeats 1000000 in
set_option maxRecDepth 100000 in
theorem t_X6_steps_p (l : Launch) (hst : l.stackTraces = false) (g : xG) (h : xS) (I : xI) (n : Nat) (hW : xWs0 h I) (x : Int32) (hx0 : x < 0 ∨ nI (sNp h) ≤ x)  : xTc l yX6_steps (xws yX6_steps cX6_steps 2 (some FieldType.int)) 7 112 g [.ref (ga g [0]), .int x] (xR g (xD h) I (xFh h) n) eIO (xG_ g (xD h) I (xFh h) n) 1 6 := by
  refine xTc.of (by decide) (Nat.le_of_ble_eq_true rfl) ?_
  intro P_ e_ s m_ bl_ mt_ cd_ ls hx hb hr hown hlocks hml hout hE hK hts hH hS hl
  have hl : lv_has ls 2 [(0, .ref (ga g [0])), (1, .int x)] := hl
  refine lv_aload_n hx hb dX6_steps_0 rfl (lv_at hl 0 rfl) ?_
  refine lv_iload_n hx hb dX6_steps_1 rfl (lv_at hl 1 rfl) ?_
  exact x_outT (x_VT hx hb hml hown hE hS hl.1 cyX6_existingPlan tw247 (t_X6_existingPlan l hst g h I n x hW.2.1 hx0) ⟨Nat.le_of_ble_eq_true rfl, Nat.le_of_ble_eq_true rfl⟩ ⟨Nat.le_of_ble_eq_true rfl, Nat.le_of_ble_eq_true rfl⟩ (x_recv hK hH (id := [0]) (by first | trivial | (simp only [xD]; omega) | (simp [xD]; done) | (simp [xD]; omega)) (ci := 6) rfl (by decide) rfl) hH rfl rfl (Nat.le_of_ble_eq_true rfl) dX6_steps_2) hS hout hlocks (fun _ hq => hq) (Nat.le_of_ble_eq_true rfl) (Nat.le_of_ble_eq_true rfl)

set_option maxHeartbeats 1000000 in
set_option maxRecDepth 100000 in
theorem t_X6_isUsed_p (l : Launch) (hst : l.stackTraces = false) (g : xG) (h : xS) (I : xI) (n : Nat) (hW : xWs0 h I) (x : Int32) (hx0 : x < 0 ∨ nI (sNp h) ≤ x)  : xTc l yX6_isUsed (xws yX6_isUsed cX6_isUsed 2 (some FieldType.boolean)) 7 112 g [.ref (ga g [0]), .int x] (xR g (xD h) I (xFh h) n) eIO (xG_ g (xD h) I (xFh h) n) 1 6 := by
  refine xTc.of (by decide) (Nat.le_of_ble_eq_true rfl) ?_
  intro P_ e_ s m_ bl_ mt_ cd_ ls hx hb hr hown hlocks hml hout hE hK hts hH hS hl
  have hl : lv_has ls 2 [(0, .ref (ga g [0])), (1, .int x)] := hl
  refine lv_aload_n hx hb dX6_isUsed_0 rfl (lv_at hl 0 rfl) ?_
  refine lv_iload_n hx hb dX6_isUsed_1 rfl (lv_at hl 1 rfl) ?_
  exact x_outT (x_VT hx hb hml hown hE hS hl.1 cyX6_existingPlan tw247 (t_X6_existingPlan l hst g h I n x hW.2.1 hx0) ⟨Nat.le_of_ble_eq_true rfl, Nat.le_of_ble_eq_true rfl⟩ ⟨Nat.le_of_ble_eq_true rfl, Nat.le_of_ble_eq_true rfl⟩ (x_recv hK hH (id := [0]) (by first | trivial | (simp only [xD]; omega) | (simp [xD]; done) | (simp [xD]; omega)) (ci := 6) rfl (by decide) rfl) hH rfl rfl (Nat.le_of_ble_eq_true rfl) dX6_isUsed_2) hS hout hlocks (fun _ hq => hq) (Nat.le_of_ble_eq_true rfl) (Nat.le_of_ble_eq_true rfl)

set_option maxHeartbeats 1000000 in
set_option maxRecDepth 100000 in
theorem t_X6_begin_p (l : Launch) (hst : l.stackTraces = false) (g : xG) (h : xS) (I : xI) (n : Nat) (hW : xWs0 h I) (x : Int32) (hx0 : x < 0 ∨ nI (sNp h) ≤ x)  : xTc l yX6_begin (xws yX6_begin cX6_begin 5 (some FieldType.int)) 7 112 g [.ref (ga g [0]), .int x] (xR g (xD h) I (xFh h) n) eIO (xG_ g (xD h) I (xFh h) n) 1 6 := by
  refine xTc.of (by decide) (Nat.le_of_ble_eq_true rfl) ?_
  intro P_ e_ s m_ bl_ mt_ cd_ ls hx hb hr hown hlocks hml hout hE hK hts hH hS hl
  have hl : lv_has ls 5 [(0, .ref (ga g [0])), (1, .int x)] := hl
  refine lv_aload_n hx hb dX6_begin_0 rfl (lv_at hl 0 rfl) ?_
  refine lv_iload_n hx hb dX6_begin_1 rfl (lv_at hl 1 rfl) ?_
  exact x_outT (x_VT hx hb hml hown hE hS hl.1 cyX6_existingPlan tw247 (t_X6_existingPlan l hst g h I n x hW.2.1 hx0) ⟨Nat.le_of_ble_eq_true rfl, Nat.le_of_ble_eq_true rfl⟩ ⟨Nat.le_of_ble_eq_true rfl, Nat.le_of_ble_eq_true rfl⟩ (x_recv hK hH (id := [0]) (by first | trivial | (simp only [xD]; omega) | (simp [xD]; done) | (simp [xD]; omega)) (ci := 6) rfl (by decide) rfl) hH rfl rfl (Nat.le_of_ble_eq_true rfl) dX6_begin_2) hS hout hlocks (fun _ hq => hq) (Nat.le_of_ble_eq_true rfl) (Nat.le_of_ble_eq_true rfl)

set_option maxHeartbeats 1000000 in
set_option maxRecDepth 100000 in
theorem t_X6_addEntry_s (l : Launch) (hst : l.stackTraces = false) (g : xG) (h : xS) (I : xI) (n : Nat) (hW : xWs0 h I) (p : Nat) (hpp : p < sNp h) (x : Int32) (hx0 : x < 0 ∨ nI (sSz h p) ≤ x) (y0 y1 y2 : Int32)  : xTc l yX6_addEntry (xws yX6_addEntry cX6_addEntry 8 (some FieldType.int)) 7 112 g [.ref (ga g [0]), .int (nI p), .int x, .int y0, .int y1, .int y2] (xR g (xD h) I (xFh h) n) eIO (xG_ g (xD h) I (xFh h) n) 1 6 := by
  refine xTc.of (by decide) (Nat.le_of_ble_eq_true rfl) ?_
  intro P_ e_ s m_ bl_ mt_ cd_ ls hx hb hr hown hlocks hml hout hE hK hts hH hS hl
  have hl : lv_has ls 8 [(0, .ref (ga g [0])), (1, .int (nI p)), (2, .int x), (3, .int y0), (4, .int y1), (5, .int y2)] := hl
  have h3 := hW.1
  have hWp := hW.2.2 _ hpp
  have h8 := hWp.1
  refine lv_aload_n hx hb dX6_addEntry_0 rfl (lv_at hl 0 rfl) ?_
  refine lv_iload_n hx hb dX6_addEntry_1 rfl (lv_at hl 1 rfl) ?_
  refine x_V1 hx hb hml hown hE hS hl.1 cyX6_existingPlan tw247 (c_X6_existingPlan l g h I n p hpp h3 hW.2.1) ⟨Nat.le_of_ble_eq_true rfl, Nat.le_of_ble_eq_true rfl⟩ ⟨Nat.le_of_ble_eq_true rfl, Nat.le_of_ble_eq_true rfl⟩ (x_recv hK hH (id := [0]) (by first | trivial | (simp only [xD]; omega) | (simp [xD]; done) | (simp [xD]; omega)) (ci := 6) rfl (by decide) rfl) hH rfl rfl (Nat.le_of_ble_eq_true rfl) dX6_addEntry_2 (fun H locs hH hS => ?_)
  refine lv_astore (lv' := [(6, .ref (ga g [5, p])), (0, .ref (ga g [0])), (1, .int (nI p)), (2, .int x), (3, .int y0), (4, .int y1), (5, .int y2)]) hx hb dX6_addEntry_5 hl (by decide) rfl (fun ls hl => ?_)
  refine lv_aload hx hb dX6_addEntry_7 (lv_at hl 0 rfl) ?_
  refine lv_iload_n hx hb dX6_addEntry_9 rfl (lv_at hl 3 rfl) ?_
  exact x_outT (x_ST hx hb hml hown hE hS hl.1 cyX6_existingStep tw372 (t_X6_existingStep l hst g h I n p x hpp hWp.2.2.1 hx0) ⟨Nat.le_of_ble_eq_true rfl, Nat.le_of_ble_eq_true rfl⟩ ⟨Nat.le_of_ble_eq_true rfl, Nat.le_of_ble_eq_true rfl⟩ hH rfl rfl (Nat.le_of_ble_eq_true rfl) dX6_addEntry_10) hS hout hlocks (fun _ hq => hq) (Nat.le_of_ble_eq_true rfl) (Nat.le_of_ble_eq_true rfl)

set_option maxHeartbeats 1000000 in
set_option maxRecDepth 100000 in
theorem t_X6_addExit_s (l : Launch) (hst : l.stackTraces = false) (g : xG) (h : xS) (I : xI) (n : Nat) (hW : xWs0 h I) (p : Nat) (hpp : p < sNp h) (x : Int32) (hx0 : x < 0 ∨ nI (sSz h p) ≤ x) (y0 y1 y2 : Int32)  : xTc l yX6_addExit (xws yX6_addExit cX6_addExit 8 (some FieldType.int)) 7 112 g [.ref (ga g [0]), .int (nI p), .int x, .int y0, .int y1, .int y2] (xR g (xD h) I (xFh h) n) eIO (xG_ g (xD h) I (xFh h) n) 1 6 := by
  refine xTc.of (by decide) (Nat.le_of_ble_eq_true rfl) ?_
  intro P_ e_ s m_ bl_ mt_ cd_ ls hx hb hr hown hlocks hml hout hE hK hts hH hS hl
  have hl : lv_has ls 8 [(0, .ref (ga g [0])), (1, .int (nI p)), (2, .int x), (3, .int y0), (4, .int y1), (5, .int y2)] := hl
  have h3 := hW.1
  have hWp := hW.2.2 _ hpp
  have h8 := hWp.1
  refine lv_aload_n hx hb dX6_addExit_0 rfl (lv_at hl 0 rfl) ?_
  refine lv_iload_n hx hb dX6_addExit_1 rfl (lv_at hl 1 rfl) ?_
  refine x_V1 hx hb hml hown hE hS hl.1 cyX6_existingPlan tw247 (c_X6_existingPlan l g h I n p hpp h3 hW.2.1) ⟨Nat.le_of_ble_eq_true rfl, Nat.le_of_ble_eq_true rfl⟩ ⟨Nat.le_of_ble_eq_true rfl, Nat.le_of_ble_eq_true rfl⟩ (x_recv hK hH (id := [0]) (by first | trivial | (simp only [xD]; omega) | (simp [xD]; done) | (simp [xD]; omega)) (ci := 6) rfl (by decide) rfl) hH rfl rfl (Nat.le_of_ble_eq_true rfl) dX6_addExit_2 (fun H locs hH hS => ?_)
  refine lv_astore (lv' := [(6, .ref (ga g [5, p])), (0, .ref (ga g [0])), (1, .int (nI p)), (2, .int x), (3, .int y0), (4, .int y1), (5, .int y2)]) hx hb dX6_addExit_5 hl (by decide) rfl (fun ls hl => ?_)
  refine lv_aload hx hb dX6_addExit_7 (lv_at hl 0 rfl) ?_
  refine lv_iload_n hx hb dX6_addExit_9 rfl (lv_at hl 3 rfl) ?_
  exact x_outT (x_ST hx hb hml hown hE hS hl.1 cyX6_existingStep tw372 (t_X6_existingStep l hst g h I n p x hpp hWp.2.2.1 hx0) ⟨Nat.le_of_ble_eq_true rfl, Nat.le_of_ble_eq_true rfl⟩ ⟨Nat.le_of_ble_eq_true rfl, Nat.le_of_ble_eq_true rfl⟩ hH rfl rfl (Nat.le_of_ble_eq_true rfl) dX6_addExit_10) hS hout hlocks (fun _ hq => hq) (Nat.le_of_ble_eq_true rfl) (Nat.le_of_ble_eq_true rfl)

set_option maxHeartbeats 1000000 in
set_option maxRecDepth 100000 in
theorem t_X6_setRequired_s (l : Launch) (hst : l.stackTraces = false) (g : xG) (h : xS) (I : xI) (n : Nat) (hW : xWs0 h I) (p : Nat) (hpp : p < sNp h) (x : Int32) (hx0 : x < 0 ∨ nI (sSz h p) ≤ x) (y0 : Int32)  : xTc l yX6_setRequired (xws yX6_setRequired cX6_setRequired 7 (some FieldType.boolean)) 7 112 g [.ref (ga g [0]), .int (nI p), .int x, .int y0] (xR g (xD h) I (xFh h) n) eIO (xG_ g (xD h) I (xFh h) n) 1 6 := by
  refine xTc.of (by decide) (Nat.le_of_ble_eq_true rfl) ?_
  intro P_ e_ s m_ bl_ mt_ cd_ ls hx hb hr hown hlocks hml hout hE hK hts hH hS hl
  have hl : lv_has ls 7 [(0, .ref (ga g [0])), (1, .int (nI p)), (2, .int x), (3, .int y0)] := hl
  have h3 := hW.1
  have hWp := hW.2.2 _ hpp
  have h8 := hWp.1
  refine lv_aload_n hx hb dX6_setRequired_0 rfl (lv_at hl 0 rfl) ?_
  refine lv_iload_n hx hb dX6_setRequired_1 rfl (lv_at hl 1 rfl) ?_
  refine x_V1 hx hb hml hown hE hS hl.1 cyX6_existingPlan tw247 (c_X6_existingPlan l g h I n p hpp h3 hW.2.1) ⟨Nat.le_of_ble_eq_true rfl, Nat.le_of_ble_eq_true rfl⟩ ⟨Nat.le_of_ble_eq_true rfl, Nat.le_of_ble_eq_true rfl⟩ (x_recv hK hH (id := [0]) (by first | trivial | (simp only [xD]; omega) | (simp [xD]; done) | (simp [xD]; omega)) (ci := 6) rfl (by decide) rfl) hH rfl rfl (Nat.le_of_ble_eq_true rfl) dX6_setRequired_2 (fun H locs hH hS => ?_)
  refine lv_astore (lv' := [(4, .ref (ga g [5, p])), (0, .ref (ga g [0])), (1, .int (nI p)), (2, .int x), (3, .int y0)]) hx hb dX6_setRequired_5 hl (by decide) rfl (fun ls hl => ?_)
  refine lv_aload hx hb dX6_setRequired_7 (lv_at hl 0 rfl) ?_
  refine lv_iload_n hx hb dX6_setRequired_9 rfl (lv_at hl 3 rfl) ?_
  exact x_outT (x_ST hx hb hml hown hE hS hl.1 cyX6_existingStep tw372 (t_X6_existingStep l hst g h I n p x hpp hWp.2.2.1 hx0) ⟨Nat.le_of_ble_eq_true rfl, Nat.le_of_ble_eq_true rfl⟩ ⟨Nat.le_of_ble_eq_true rfl, Nat.le_of_ble_eq_true rfl⟩ hH rfl rfl (Nat.le_of_ble_eq_true rfl) dX6_setRequired_10) hS hout hlocks (fun _ hq => hq) (Nat.le_of_ble_eq_true rfl) (Nat.le_of_ble_eq_true rfl)

set_option maxHeartbeats 1000000 in
set_option maxRecDepth 100000 in
theorem t_X6_setLimit_s (l : Launch) (hst : l.stackTraces = false) (g : xG) (h : xS) (I : xI) (n : Nat) (hW : xWs0 h I) (p : Nat) (hpp : p < sNp h) (x : Int32) (hx0 : x < 0 ∨ nI (sSz h p) ≤ x) (y0 : Int32)  : xTc l yX6_setLimit (xws yX6_setLimit cX6_setLimit 7 (some FieldType.int)) 7 112 g [.ref (ga g [0]), .int (nI p), .int x, .int y0] (xR g (xD h) I (xFh h) n) eIO (xG_ g (xD h) I (xFh h) n) 1 6 := by
  refine xTc.of (by decide) (Nat.le_of_ble_eq_true rfl) ?_
  intro P_ e_ s m_ bl_ mt_ cd_ ls hx hb hr hown hlocks hml hout hE hK hts hH hS hl
  have hl : lv_has ls 7 [(0, .ref (ga g [0])), (1, .int (nI p)), (2, .int x), (3, .int y0)] := hl
  have h3 := hW.1
  have hWp := hW.2.2 _ hpp
  have h8 := hWp.1
  refine lv_aload_n hx hb dX6_setLimit_0 rfl (lv_at hl 0 rfl) ?_
  refine lv_iload_n hx hb dX6_setLimit_1 rfl (lv_at hl 1 rfl) ?_
  refine x_V1 hx hb hml hown hE hS hl.1 cyX6_existingPlan tw247 (c_X6_existingPlan l g h I n p hpp h3 hW.2.1) ⟨Nat.le_of_ble_eq_true rfl, Nat.le_of_ble_eq_true rfl⟩ ⟨Nat.le_of_ble_eq_true rfl, Nat.le_of_ble_eq_true rfl⟩ (x_recv hK hH (id := [0]) (by first | trivial | (simp only [xD]; omega) | (simp [xD]; done) | (simp [xD]; omega)) (ci := 6) rfl (by decide) rfl) hH rfl rfl (Nat.le_of_ble_eq_true rfl) dX6_setLimit_2 (fun H locs hH hS => ?_)
  refine lv_astore (lv' := [(4, .ref (ga g [5, p])), (0, .ref (ga g [0])), (1, .int (nI p)), (2, .int x), (3, .int y0)]) hx hb dX6_setLimit_5 hl (by decide) rfl (fun ls hl => ?_)
  refine lv_aload hx hb dX6_setLimit_7 (lv_at hl 0 rfl) ?_
  refine lv_iload_n hx hb dX6_setLimit_9 rfl (lv_at hl 3 rfl) ?_
  exact x_outT (x_ST hx hb hml hown hE hS hl.1 cyX6_existingStep tw372 (t_X6_existingStep l hst g h I n p x hpp hWp.2.2.1 hx0) ⟨Nat.le_of_ble_eq_true rfl, Nat.le_of_ble_eq_true rfl⟩ ⟨Nat.le_of_ble_eq_true rfl, Nat.le_of_ble_eq_true rfl⟩ hH rfl rfl (Nat.le_of_ble_eq_true rfl) dX6_setLimit_10) hS hout hlocks (fun _ hq => hq) (Nat.le_of_ble_eq_true rfl) (Nat.le_of_ble_eq_true rfl)

set_option maxHeartbeats 1000000 in
set_option maxRecDepth 100000 in
theorem t_X6_setAgain_s (l : Launch) (hst : l.stackTraces = false) (g : xG) (h : xS) (I : xI) (n : Nat) (hW : xWs0 h I) (p : Nat) (hpp : p < sNp h) (x : Int32) (hx0 : x < 0 ∨ nI (sSz h p) ≤ x) (y0 : Int32)  : xTc l yX6_setAgain (xws yX6_setAgain cX6_setAgain 7 (some FieldType.boolean)) 7 112 g [.ref (ga g [0]), .int (nI p), .int x, .int y0] (xR g (xD h) I (xFh h) n) eIO (xG_ g (xD h) I (xFh h) n) 1 6 := by
  refine xTc.of (by decide) (Nat.le_of_ble_eq_true rfl) ?_
  intro P_ e_ s m_ bl_ mt_ cd_ ls hx hb hr hown hlocks hml hout hE hK hts hH hS hl
  have hl : lv_has ls 7 [(0, .ref (ga g [0])), (1, .int (nI p)), (2, .int x), (3, .int y0)] := hl
  have h3 := hW.1
  have hWp := hW.2.2 _ hpp
  have h8 := hWp.1
  refine lv_aload_n hx hb dX6_setAgain_0 rfl (lv_at hl 0 rfl) ?_
  refine lv_iload_n hx hb dX6_setAgain_1 rfl (lv_at hl 1 rfl) ?_
  refine x_V1 hx hb hml hown hE hS hl.1 cyX6_existingPlan tw247 (c_X6_existingPlan l g h I n p hpp h3 hW.2.1) ⟨Nat.le_of_ble_eq_true rfl, Nat.le_of_ble_eq_true rfl⟩ ⟨Nat.le_of_ble_eq_true rfl, Nat.le_of_ble_eq_true rfl⟩ (x_recv hK hH (id := [0]) (by first | trivial | (simp only [xD]; omega) | (simp [xD]; done) | (simp [xD]; omega)) (ci := 6) rfl (by decide) rfl) hH rfl rfl (Nat.le_of_ble_eq_true rfl) dX6_setAgain_2 (fun H locs hH hS => ?_)
  refine lv_astore (lv' := [(4, .ref (ga g [5, p])), (0, .ref (ga g [0])), (1, .int (nI p)), (2, .int x), (3, .int y0)]) hx hb dX6_setAgain_5 hl (by decide) rfl (fun ls hl => ?_)
  refine lv_aload hx hb dX6_setAgain_7 (lv_at hl 0 rfl) ?_
  refine lv_iload_n hx hb dX6_setAgain_9 rfl (lv_at hl 3 rfl) ?_
  exact x_outT (x_ST hx hb hml hown hE hS hl.1 cyX6_existingStep tw372 (t_X6_existingStep l hst g h I n p x hpp hWp.2.2.1 hx0) ⟨Nat.le_of_ble_eq_true rfl, Nat.le_of_ble_eq_true rfl⟩ ⟨Nat.le_of_ble_eq_true rfl, Nat.le_of_ble_eq_true rfl⟩ hH rfl rfl (Nat.le_of_ble_eq_true rfl) dX6_setAgain_10) hS hout hlocks (fun _ hq => hq) (Nat.le_of_ble_eq_true rfl) (Nat.le_of_ble_eq_true rfl)

set_option maxHeartbeats 1000000 in
set_option maxRecDepth 100000 in
theorem t_X6_set_c (l : Launch) (hst : l.stackTraces = false) (g : xG) (h : xS) (I : xI) (n : Nat) (hC : xWc h I) (x : Int32) (hx0 : x < 0 ∨ nI (sNc h) ≤ x) (y0 y1 : Int32)  : xTc l yX6_set (xws yX6_set cX6_set 6 (some FieldType.int)) 7 112 g [.ref (ga g [0]), .int x, .int y0, .int y1] (xR g (xD h) I (xFh h) n) eIO (xG_ g (xD h) I (xFh h) n) 1 6 := by
  refine xTc.of (by decide) (Nat.le_of_ble_eq_true rfl) ?_
  intro P_ e_ s m_ bl_ mt_ cd_ ls hx hb hr hown hlocks hml hout hE hK hts hH hS hl
  have hl : lv_has ls 6 [(0, .ref (ga g [0])), (1, .int x), (2, .int y0), (3, .int y1)] := hl
  refine lv_aload_n hx hb dX6_set_0 rfl (lv_at hl 0 rfl) ?_
  refine lv_iload_n hx hb dX6_set_1 rfl (lv_at hl 1 rfl) ?_
  exact x_outT (x_VT hx hb hml hown hE hS hl.1 cyX6_existingCase tw571 (t_X6_existingCase l hst g h I n x hC.2.1 hx0) ⟨Nat.le_of_ble_eq_true rfl, Nat.le_of_ble_eq_true rfl⟩ ⟨Nat.le_of_ble_eq_true rfl, Nat.le_of_ble_eq_true rfl⟩ (x_recv hK hH (id := [0]) (by first | trivial | (simp only [xD]; omega) | (simp [xD]; done) | (simp [xD]; omega)) (ci := 6) rfl (by decide) rfl) hH rfl rfl (Nat.le_of_ble_eq_true rfl) dX6_set_2) hS hout hlocks (fun _ hq => hq) (Nat.le_of_ble_eq_true rfl) (Nat.le_of_ble_eq_true rfl)

set_option maxHeartbeats 1000000 in
set_option maxRecDepth 100000 in
theorem t_X6_event_c (l : Launch) (hst : l.stackTraces = false) (g : xG) (h : xS) (I : xI) (n : Nat) (hC : xWc h I) (x : Int32) (hx0 : x < 0 ∨ nI (sNc h) ≤ x) (y0 : Int32)  : xTc l yX6_event (xws yX6_event cX6_event 4 (some FieldType.int)) 7 112 g [.ref (ga g [0]), .int x, .int y0] (xR g (xD h) I (xFh h) n) eIO (xG_ g (xD h) I (xFh h) n) 1 6 := by
  refine xTc.of (by decide) (Nat.le_of_ble_eq_true rfl) ?_
  intro P_ e_ s m_ bl_ mt_ cd_ ls hx hb hr hown hlocks hml hout hE hK hts hH hS hl
  have hl : lv_has ls 4 [(0, .ref (ga g [0])), (1, .int x), (2, .int y0)] := hl
  refine lv_aload_n hx hb dX6_event_0 rfl (lv_at hl 0 rfl) ?_
  refine lv_iload_n hx hb dX6_event_1 rfl (lv_at hl 1 rfl) ?_
  exact x_outT (x_VT hx hb hml hown hE hS hl.1 cyX6_existingCase tw571 (t_X6_existingCase l hst g h I n x hC.2.1 hx0) ⟨Nat.le_of_ble_eq_true rfl, Nat.le_of_ble_eq_true rfl⟩ ⟨Nat.le_of_ble_eq_true rfl, Nat.le_of_ble_eq_true rfl⟩ (x_recv hK hH (id := [0]) (by first | trivial | (simp only [xD]; omega) | (simp [xD]; done) | (simp [xD]; omega)) (ci := 6) rfl (by decide) rfl) hH rfl rfl (Nat.le_of_ble_eq_true rfl) dX6_event_2) hS hout hlocks (fun _ hq => hq) (Nat.le_of_ble_eq_true rfl) (Nat.le_of_ble_eq_true rfl)

set_option maxHeartbeats 1000000 in
set_option maxRecDepth 100000 in
theorem t_X6_complete_c (l : Launch) (hst : l.stackTraces = false) (g : xG) (h : xS) (I : xI) (n : Nat) (hC : xWc h I) (x : Int32) (hx0 : x < 0 ∨ nI (sNc h) ≤ x) (y0 : Int32)  : xTc l yX6_complete (xws yX6_complete cX6_complete 4 (some FieldType.int)) 7 112 g [.ref (ga g [0]), .int x, .int y0] (xR g (xD h) I (xFh h) n) eIO (xG_ g (xD h) I (xFh h) n) 1 6 := by
  refine xTc.of (by decide) (Nat.le_of_ble_eq_true rfl) ?_
  intro P_ e_ s m_ bl_ mt_ cd_ ls hx hb hr hown hlocks hml hout hE hK hts hH hS hl
  have hl : lv_has ls 4 [(0, .ref (ga g [0])), (1, .int x), (2, .int y0)] := hl
  refine lv_aload_n hx hb dX6_complete_0 rfl (lv_at hl 0 rfl) ?_
  refine lv_iload_n hx hb dX6_complete_1 rfl (lv_at hl 1 rfl) ?_
  exact x_outT (x_VT hx hb hml hown hE hS hl.1 cyX6_existingCase tw571 (t_X6_existingCase l hst g h I n x hC.2.1 hx0) ⟨Nat.le_of_ble_eq_true rfl, Nat.le_of_ble_eq_true rfl⟩ ⟨Nat.le_of_ble_eq_true rfl, Nat.le_of_ble_eq_true rfl⟩ (x_recv hK hH (id := [0]) (by first | trivial | (simp only [xD]; omega) | (simp [xD]; done) | (simp [xD]; omega)) (ci := 6) rfl (by decide) rfl) hH rfl rfl (Nat.le_of_ble_eq_true rfl) dX6_complete_2) hS hout hlocks (fun _ hq => hq) (Nat.le_of_ble_eq_true rfl) (Nat.le_of_ble_eq_true rfl)

set_option maxHeartbeats 1000000 in
set_option maxRecDepth 100000 in
theorem t_X6_setWaiting_c (l : Launch) (hst : l.stackTraces = false) (g : xG) (h : xS) (I : xI) (n : Nat) (hC : xWc h I) (x : Int32) (hx0 : x < 0 ∨ nI (sNc h) ≤ x) (y0 : Int32)  : xTc l yX6_setWaiting (xws yX6_setWaiting cX6_setWaiting 5 (some FieldType.boolean)) 7 112 g [.ref (ga g [0]), .int x, .int y0] (xR g (xD h) I (xFh h) n) eIO (xG_ g (xD h) I (xFh h) n) 1 6 := by
  refine xTc.of (by decide) (Nat.le_of_ble_eq_true rfl) ?_
  intro P_ e_ s m_ bl_ mt_ cd_ ls hx hb hr hown hlocks hml hout hE hK hts hH hS hl
  have hl : lv_has ls 5 [(0, .ref (ga g [0])), (1, .int x), (2, .int y0)] := hl
  refine lv_aload_n hx hb dX6_setWaiting_0 rfl (lv_at hl 0 rfl) ?_
  refine lv_iload_n hx hb dX6_setWaiting_1 rfl (lv_at hl 1 rfl) ?_
  exact x_outT (x_VT hx hb hml hown hE hS hl.1 cyX6_existingCase tw571 (t_X6_existingCase l hst g h I n x hC.2.1 hx0) ⟨Nat.le_of_ble_eq_true rfl, Nat.le_of_ble_eq_true rfl⟩ ⟨Nat.le_of_ble_eq_true rfl, Nat.le_of_ble_eq_true rfl⟩ (x_recv hK hH (id := [0]) (by first | trivial | (simp only [xD]; omega) | (simp [xD]; done) | (simp [xD]; omega)) (ci := 6) rfl (by decide) rfl) hH rfl rfl (Nat.le_of_ble_eq_true rfl) dX6_setWaiting_2) hS hout hlocks (fun _ hq => hq) (Nat.le_of_ble_eq_true rfl) (Nat.le_of_ble_eq_true rfl)

set_option maxHeartbeats 1000000 in
set_option maxRecDepth 100000 in
theorem t_X6_move_c (l : Launch) (hst : l.stackTraces = false) (g : xG) (h : xS) (I : xI) (n : Nat) (hC : xWc h I) (x : Int32) (hx0 : x < 0 ∨ nI (sNc h) ≤ x) (y0 : Int32)  : xTc l yX6_move (xws yX6_move cX6_move 6 (some FieldType.int)) 7 112 g [.ref (ga g [0]), .int x, .int y0] (xR g (xD h) I (xFh h) n) eIO (xG_ g (xD h) I (xFh h) n) 1 6 := by
  refine xTc.of (by decide) (Nat.le_of_ble_eq_true rfl) ?_
  intro P_ e_ s m_ bl_ mt_ cd_ ls hx hb hr hown hlocks hml hout hE hK hts hH hS hl
  have hl : lv_has ls 6 [(0, .ref (ga g [0])), (1, .int x), (2, .int y0)] := hl
  refine lv_aload_n hx hb dX6_move_0 rfl (lv_at hl 0 rfl) ?_
  refine lv_iload_n hx hb dX6_move_1 rfl (lv_at hl 1 rfl) ?_
  exact x_outT (x_VT hx hb hml hown hE hS hl.1 cyX6_existingCase tw571 (t_X6_existingCase l hst g h I n x hC.2.1 hx0) ⟨Nat.le_of_ble_eq_true rfl, Nat.le_of_ble_eq_true rfl⟩ ⟨Nat.le_of_ble_eq_true rfl, Nat.le_of_ble_eq_true rfl⟩ (x_recv hK hH (id := [0]) (by first | trivial | (simp only [xD]; omega) | (simp [xD]; done) | (simp [xD]; omega)) (ci := 6) rfl (by decide) rfl) hH rfl rfl (Nat.le_of_ble_eq_true rfl) dX6_move_2) hS hout hlocks (fun _ hq => hq) (Nat.le_of_ble_eq_true rfl) (Nat.le_of_ble_eq_true rfl)

set_option maxHeartbeats 1000000 in
set_option maxRecDepth 100000 in
theorem t_X6_daysLeft_c (l : Launch) (hst : l.stackTraces = false) (g : xG) (h : xS) (I : xI) (n : Nat) (hC : xWc h I) (x : Int32) (hx0 : x < 0 ∨ nI (sNc h) ≤ x)  : xTc l yX6_daysLeft (xws yX6_daysLeft cX6_daysLeft 3 (some FieldType.int)) 7 112 g [.ref (ga g [0]), .int x] (xR g (xD h) I (xFh h) n) eIO (xG_ g (xD h) I (xFh h) n) 1 6 := by
  refine xTc.of (by decide) (Nat.le_of_ble_eq_true rfl) ?_
  intro P_ e_ s m_ bl_ mt_ cd_ ls hx hb hr hown hlocks hml hout hE hK hts hH hS hl
  have hl : lv_has ls 3 [(0, .ref (ga g [0])), (1, .int x)] := hl
  refine lv_aload_n hx hb dX6_daysLeft_0 rfl (lv_at hl 0 rfl) ?_
  refine lv_iload_n hx hb dX6_daysLeft_1 rfl (lv_at hl 1 rfl) ?_
  exact x_outT (x_VT hx hb hml hown hE hS hl.1 cyX6_existingCase tw571 (t_X6_existingCase l hst g h I n x hC.2.1 hx0) ⟨Nat.le_of_ble_eq_true rfl, Nat.le_of_ble_eq_true rfl⟩ ⟨Nat.le_of_ble_eq_true rfl, Nat.le_of_ble_eq_true rfl⟩ (x_recv hK hH (id := [0]) (by first | trivial | (simp only [xD]; omega) | (simp [xD]; done) | (simp [xD]; omega)) (ci := 6) rfl (by decide) rfl) hH rfl rfl (Nat.le_of_ble_eq_true rfl) dX6_daysLeft_2) hS hout hlocks (fun _ hq => hq) (Nat.le_of_ble_eq_true rfl) (Nat.le_of_ble_eq_true rfl)

set_option maxHeartbeats 1000000 in
set_option maxRecDepth 100000 in
theorem t_X6_holds_c (l : Launch) (hst : l.stackTraces = false) (g : xG) (h : xS) (I : xI) (n : Nat) (hC : xWc h I) (x : Int32) (hx0 : x < 0 ∨ nI (sNc h) ≤ x) (y0 y1 y2 : Int32)  : xTc l yX6_holds (xws yX6_holds cX6_holds 9 (some FieldType.boolean)) 7 112 g [.ref (ga g [0]), .int x, .int y0, .int y1, .int y2] (xR g (xD h) I (xFh h) n) eIO (xG_ g (xD h) I (xFh h) n) 1 6 := by
  refine xTc.of (by decide) (Nat.le_of_ble_eq_true rfl) ?_
  intro P_ e_ s m_ bl_ mt_ cd_ ls hx hb hr hown hlocks hml hout hE hK hts hH hS hl
  have hl : lv_has ls 9 [(0, .ref (ga g [0])), (1, .int x), (2, .int y0), (3, .int y1), (4, .int y2)] := hl
  refine lv_aload_n hx hb dX6_holds_0 rfl (lv_at hl 0 rfl) ?_
  refine lv_iload_n hx hb dX6_holds_1 rfl (lv_at hl 1 rfl) ?_
  exact x_outT (x_VT hx hb hml hown hE hS hl.1 cyX6_existingCase tw571 (t_X6_existingCase l hst g h I n x hC.2.1 hx0) ⟨Nat.le_of_ble_eq_true rfl, Nat.le_of_ble_eq_true rfl⟩ ⟨Nat.le_of_ble_eq_true rfl, Nat.le_of_ble_eq_true rfl⟩ (x_recv hK hH (id := [0]) (by first | trivial | (simp only [xD]; omega) | (simp [xD]; done) | (simp [xD]; omega)) (ci := 6) rfl (by decide) rfl) hH rfl rfl (Nat.le_of_ble_eq_true rfl) dX6_holds_2) hS hout hlocks (fun _ hq => hq) (Nat.le_of_ble_eq_true rfl) (Nat.le_of_ble_eq_true rfl)

set_option maxHeartbeats 1000000 in
set_option maxRecDepth 100000 in
theorem t_X6_active_c (l : Launch) (hst : l.stackTraces = false) (g : xG) (h : xS) (I : xI) (n : Nat) (hC : xWc h I) (x : Int32) (hx0 : x < 0 ∨ nI (sNc h) ≤ x)  : xTc l yX6_active (xws yX6_active cX6_active 2 (some FieldType.int)) 7 112 g [.ref (ga g [0]), .int x] (xR g (xD h) I (xFh h) n) eIO (xG_ g (xD h) I (xFh h) n) 1 6 := by
  refine xTc.of (by decide) (Nat.le_of_ble_eq_true rfl) ?_
  intro P_ e_ s m_ bl_ mt_ cd_ ls hx hb hr hown hlocks hml hout hE hK hts hH hS hl
  have hl : lv_has ls 2 [(0, .ref (ga g [0])), (1, .int x)] := hl
  refine lv_aload_n hx hb dX6_active_0 rfl (lv_at hl 0 rfl) ?_
  refine lv_iload_n hx hb dX6_active_1 rfl (lv_at hl 1 rfl) ?_
  exact x_outT (x_VT hx hb hml hown hE hS hl.1 cyX6_existingCase tw571 (t_X6_existingCase l hst g h I n x hC.2.1 hx0) ⟨Nat.le_of_ble_eq_true rfl, Nat.le_of_ble_eq_true rfl⟩ ⟨Nat.le_of_ble_eq_true rfl, Nat.le_of_ble_eq_true rfl⟩ (x_recv hK hH (id := [0]) (by first | trivial | (simp only [xD]; omega) | (simp [xD]; done) | (simp [xD]; omega)) (ci := 6) rfl (by decide) rfl) hH rfl rfl (Nat.le_of_ble_eq_true rfl) dX6_active_2) hS hout hlocks (fun _ hq => hq) (Nat.le_of_ble_eq_true rfl) (Nat.le_of_ble_eq_true rfl)

set_option maxHeartbeats 1000000 in
set_option maxRecDepth 100000 in
theorem t_X6_isOver_c (l : Launch) (hst : l.stackTraces = false) (g : xG) (h : xS) (I : xI) (n : Nat) (hC : xWc h I) (x : Int32) (hx0 : x < 0 ∨ nI (sNc h) ≤ x)  : xTc l yX6_isOver (xws yX6_isOver cX6_isOver 2 (some FieldType.boolean)) 7 112 g [.ref (ga g [0]), .int x] (xR g (xD h) I (xFh h) n) eIO (xG_ g (xD h) I (xFh h) n) 1 6 := by
  refine xTc.of (by decide) (Nat.le_of_ble_eq_true rfl) ?_
  intro P_ e_ s m_ bl_ mt_ cd_ ls hx hb hr hown hlocks hml hout hE hK hts hH hS hl
  have hl : lv_has ls 2 [(0, .ref (ga g [0])), (1, .int x)] := hl
  refine lv_aload_n hx hb dX6_isOver_0 rfl (lv_at hl 0 rfl) ?_
  refine lv_iload_n hx hb dX6_isOver_1 rfl (lv_at hl 1 rfl) ?_
  exact x_outT (x_VT hx hb hml hown hE hS hl.1 cyX6_existingCase tw571 (t_X6_existingCase l hst g h I n x hC.2.1 hx0) ⟨Nat.le_of_ble_eq_true rfl, Nat.le_of_ble_eq_true rfl⟩ ⟨Nat.le_of_ble_eq_true rfl, Nat.le_of_ble_eq_true rfl⟩ (x_recv hK hH (id := [0]) (by first | trivial | (simp only [xD]; omega) | (simp [xD]; done) | (simp [xD]; omega)) (ci := 6) rfl (by decide) rfl) hH rfl rfl (Nat.le_of_ble_eq_true rfl) dX6_isOver_2) hS hout hlocks (fun _ hq => hq) (Nat.le_of_ble_eq_true rfl) (Nat.le_of_ble_eq_true rfl)

set_option maxHeartbeats 1000000 in
set_option maxRecDepth 100000 in
theorem t_X6_rounds_c (l : Launch) (hst : l.stackTraces = false) (g : xG) (h : xS) (I : xI) (n : Nat) (hC : xWc h I) (x : Int32) (hx0 : x < 0 ∨ nI (sNc h) ≤ x)  : xTc l yX6_rounds (xws yX6_rounds cX6_rounds 2 (some FieldType.int)) 7 112 g [.ref (ga g [0]), .int x] (xR g (xD h) I (xFh h) n) eIO (xG_ g (xD h) I (xFh h) n) 1 6 := by
  refine xTc.of (by decide) (Nat.le_of_ble_eq_true rfl) ?_
  intro P_ e_ s m_ bl_ mt_ cd_ ls hx hb hr hown hlocks hml hout hE hK hts hH hS hl
  have hl : lv_has ls 2 [(0, .ref (ga g [0])), (1, .int x)] := hl
  refine lv_aload_n hx hb dX6_rounds_0 rfl (lv_at hl 0 rfl) ?_
  refine lv_iload_n hx hb dX6_rounds_1 rfl (lv_at hl 1 rfl) ?_
  exact x_outT (x_VT hx hb hml hown hE hS hl.1 cyX6_existingCase tw571 (t_X6_existingCase l hst g h I n x hC.2.1 hx0) ⟨Nat.le_of_ble_eq_true rfl, Nat.le_of_ble_eq_true rfl⟩ ⟨Nat.le_of_ble_eq_true rfl, Nat.le_of_ble_eq_true rfl⟩ (x_recv hK hH (id := [0]) (by first | trivial | (simp only [xD]; omega) | (simp [xD]; done) | (simp [xD]; omega)) (ci := 6) rfl (by decide) rfl) hH rfl rfl (Nat.le_of_ble_eq_true rfl) dX6_rounds_2) hS hout hlocks (fun _ hq => hq) (Nat.le_of_ble_eq_true rfl) (Nat.le_of_ble_eq_true rfl)

set_option maxHeartbeats 1000000 in
set_option maxRecDepth 100000 in
theorem t_X6_datum_c (l : Launch) (hst : l.stackTraces = false) (g : xG) (h : xS) (I : xI) (n : Nat) (hC : xWc h I) (x : Int32) (hx0 : x < 0 ∨ nI (sNc h) ≤ x) (y0 : Int32)  : xTc l yX6_datum (xws yX6_datum cX6_datum 4 (some FieldType.int)) 7 112 g [.ref (ga g [0]), .int x, .int y0] (xR g (xD h) I (xFh h) n) eIO (xG_ g (xD h) I (xFh h) n) 1 6 := by
  refine xTc.of (by decide) (Nat.le_of_ble_eq_true rfl) ?_
  intro P_ e_ s m_ bl_ mt_ cd_ ls hx hb hr hown hlocks hml hout hE hK hts hH hS hl
  have hl : lv_has ls 4 [(0, .ref (ga g [0])), (1, .int x), (2, .int y0)] := hl
  refine lv_aload_n hx hb dX6_datum_0 rfl (lv_at hl 0 rfl) ?_
  refine lv_iload_n hx hb dX6_datum_1 rfl (lv_at hl 1 rfl) ?_
  exact x_outT (x_VT hx hb hml hown hE hS hl.1 cyX6_existingCase tw571 (t_X6_existingCase l hst g h I n x hC.2.1 hx0) ⟨Nat.le_of_ble_eq_true rfl, Nat.le_of_ble_eq_true rfl⟩ ⟨Nat.le_of_ble_eq_true rfl, Nat.le_of_ble_eq_true rfl⟩ (x_recv hK hH (id := [0]) (by first | trivial | (simp only [xD]; omega) | (simp [xD]; done) | (simp [xD]; omega)) (ci := 6) rfl (by decide) rfl) hH rfl rfl (Nat.le_of_ble_eq_true rfl) dX6_datum_2) hS hout hlocks (fun _ hq => hq) (Nat.le_of_ble_eq_true rfl) (Nat.le_of_ble_eq_true rfl)

set_option maxHeartbeats 1000000 in
set_option maxRecDepth 100000 in
theorem t_X6_days_c (l : Launch) (hst : l.stackTraces = false) (g : xG) (h : xS) (I : xI) (n : Nat) (hC : xWc h I) (x : Int32) (hx0 : x < 0 ∨ nI (sNc h) ≤ x)  : xTc l yX6_days (xws yX6_days cX6_days 2 (some FieldType.int)) 7 112 g [.ref (ga g [0]), .int x] (xR g (xD h) I (xFh h) n) eIO (xG_ g (xD h) I (xFh h) n) 1 6 := by
  refine xTc.of (by decide) (Nat.le_of_ble_eq_true rfl) ?_
  intro P_ e_ s m_ bl_ mt_ cd_ ls hx hb hr hown hlocks hml hout hE hK hts hH hS hl
  have hl : lv_has ls 2 [(0, .ref (ga g [0])), (1, .int x)] := hl
  refine lv_aload_n hx hb dX6_days_0 rfl (lv_at hl 0 rfl) ?_
  refine lv_iload_n hx hb dX6_days_1 rfl (lv_at hl 1 rfl) ?_
  exact x_outT (x_VT hx hb hml hown hE hS hl.1 cyX6_existingCase tw571 (t_X6_existingCase l hst g h I n x hC.2.1 hx0) ⟨Nat.le_of_ble_eq_true rfl, Nat.le_of_ble_eq_true rfl⟩ ⟨Nat.le_of_ble_eq_true rfl, Nat.le_of_ble_eq_true rfl⟩ (x_recv hK hH (id := [0]) (by first | trivial | (simp only [xD]; omega) | (simp [xD]; done) | (simp [xD]; omega)) (ci := 6) rfl (by decide) rfl) hH rfl rfl (Nat.le_of_ble_eq_true rfl) dX6_days_2) hS hout hlocks (fun _ hq => hq) (Nat.le_of_ble_eq_true rfl) (Nat.le_of_ble_eq_true rfl)

set_option maxHeartbeats 1000000 in
set_option maxRecDepth 100000 in
theorem t_X6_planOf_c (l : Launch) (hst : l.stackTraces = false) (g : xG) (h : xS) (I : xI) (n : Nat) (hC : xWc h I) (x : Int32) (hx0 : x < 0 ∨ nI (sNc h) ≤ x)  : xTc l yX6_planOf (xws yX6_planOf cX6_planOf 2 (some FieldType.int)) 7 112 g [.ref (ga g [0]), .int x] (xR g (xD h) I (xFh h) n) eIO (xG_ g (xD h) I (xFh h) n) 1 6 := by
  refine xTc.of (by decide) (Nat.le_of_ble_eq_true rfl) ?_
  intro P_ e_ s m_ bl_ mt_ cd_ ls hx hb hr hown hlocks hml hout hE hK hts hH hS hl
  have hl : lv_has ls 2 [(0, .ref (ga g [0])), (1, .int x)] := hl
  refine lv_aload_n hx hb dX6_planOf_0 rfl (lv_at hl 0 rfl) ?_
  refine lv_iload_n hx hb dX6_planOf_1 rfl (lv_at hl 1 rfl) ?_
  exact x_outT (x_VT hx hb hml hown hE hS hl.1 cyX6_existingCase tw571 (t_X6_existingCase l hst g h I n x hC.2.1 hx0) ⟨Nat.le_of_ble_eq_true rfl, Nat.le_of_ble_eq_true rfl⟩ ⟨Nat.le_of_ble_eq_true rfl, Nat.le_of_ble_eq_true rfl⟩ (x_recv hK hH (id := [0]) (by first | trivial | (simp only [xD]; omega) | (simp [xD]; done) | (simp [xD]; omega)) (ci := 6) rfl (by decide) rfl) hH rfl rfl (Nat.le_of_ble_eq_true rfl) dX6_planOf_2) hS hout hlocks (fun _ hq => hq) (Nat.le_of_ble_eq_true rfl) (Nat.le_of_ble_eq_true rfl)

set_option maxHeartbeats 1000000 in
set_option maxRecDepth 100000 in
theorem t_X6_isWaiting_c (l : Launch) (hst : l.stackTraces = false) (g : xG) (h : xS) (I : xI) (n : Nat) (hC : xWc h I) (x : Int32) (hx0 : x < 0 ∨ nI (sNc h) ≤ x)  : xTc l yX6_isWaiting (xws yX6_isWaiting cX6_isWaiting 2 (some FieldType.boolean)) 7 112 g [.ref (ga g [0]), .int x] (xR g (xD h) I (xFh h) n) eIO (xG_ g (xD h) I (xFh h) n) 1 6 := by
  refine xTc.of (by decide) (Nat.le_of_ble_eq_true rfl) ?_
  intro P_ e_ s m_ bl_ mt_ cd_ ls hx hb hr hown hlocks hml hout hE hK hts hH hS hl
  have hl : lv_has ls 2 [(0, .ref (ga g [0])), (1, .int x)] := hl
  refine lv_aload_n hx hb dX6_isWaiting_0 rfl (lv_at hl 0 rfl) ?_
  refine lv_iload_n hx hb dX6_isWaiting_1 rfl (lv_at hl 1 rfl) ?_
  exact x_outT (x_VT hx hb hml hown hE hS hl.1 cyX6_existingCase tw571 (t_X6_existingCase l hst g h I n x hC.2.1 hx0) ⟨Nat.le_of_ble_eq_true rfl, Nat.le_of_ble_eq_true rfl⟩ ⟨Nat.le_of_ble_eq_true rfl, Nat.le_of_ble_eq_true rfl⟩ (x_recv hK hH (id := [0]) (by first | trivial | (simp only [xD]; omega) | (simp [xD]; done) | (simp [xD]; omega)) (ci := 6) rfl (by decide) rfl) hH rfl rfl (Nat.le_of_ble_eq_true rfl) dX6_isWaiting_2) hS hout hlocks (fun _ hq => hq) (Nat.le_of_ble_eq_true rfl) (Nat.le_of_ble_eq_true rfl)

set_option maxHeartbeats 1000000 in
set_option maxRecDepth 100000 in
theorem t_X6_happened_c (l : Launch) (hst : l.stackTraces = false) (g : xG) (h : xS) (I : xI) (n : Nat) (hC : xWc h I) (x : Int32) (hx0 : x < 0 ∨ nI (sNc h) ≤ x)  : xTc l yX6_happened (xws yX6_happened cX6_happened 2 (some FieldType.int)) 7 112 g [.ref (ga g [0]), .int x] (xR g (xD h) I (xFh h) n) eIO (xG_ g (xD h) I (xFh h) n) 1 6 := by
  refine xTc.of (by decide) (Nat.le_of_ble_eq_true rfl) ?_
  intro P_ e_ s m_ bl_ mt_ cd_ ls hx hb hr hown hlocks hml hout hE hK hts hH hS hl
  have hl : lv_has ls 2 [(0, .ref (ga g [0])), (1, .int x)] := hl
  refine lv_aload_n hx hb dX6_happened_0 rfl (lv_at hl 0 rfl) ?_
  refine lv_iload_n hx hb dX6_happened_1 rfl (lv_at hl 1 rfl) ?_
  exact x_outT (x_VT hx hb hml hown hE hS hl.1 cyX6_existingCase tw571 (t_X6_existingCase l hst g h I n x hC.2.1 hx0) ⟨Nat.le_of_ble_eq_true rfl, Nat.le_of_ble_eq_true rfl⟩ ⟨Nat.le_of_ble_eq_true rfl, Nat.le_of_ble_eq_true rfl⟩ (x_recv hK hH (id := [0]) (by first | trivial | (simp only [xD]; omega) | (simp [xD]; done) | (simp [xD]; omega)) (ci := 6) rfl (by decide) rfl) hH rfl rfl (Nat.le_of_ble_eq_true rfl) dX6_happened_2) hS hout hlocks (fun _ hq => hq) (Nat.le_of_ble_eq_true rfl) (Nat.le_of_ble_eq_true rfl)

set_option maxHeartbeats 1000000 in
set_option maxRecDepth 100000 in
theorem t_X6_doneShare_c (l : Launch) (hst : l.stackTraces = false) (g : xG) (h : xS) (I : xI) (n : Nat) (hC : xWc h I) (x : Int32) (hx0 : x < 0 ∨ nI (sNc h) ≤ x)  : xTc l yX6_doneShare (xws yX6_doneShare cX6_doneShare 4 (some FieldType.float)) 7 112 g [.ref (ga g [0]), .int x] (xR g (xD h) I (xFh h) n) eIO (xG_ g (xD h) I (xFh h) n) 1 6 := by
  refine xTc.of (by decide) (Nat.le_of_ble_eq_true rfl) ?_
  intro P_ e_ s m_ bl_ mt_ cd_ ls hx hb hr hown hlocks hml hout hE hK hts hH hS hl
  have hl : lv_has ls 4 [(0, .ref (ga g [0])), (1, .int x)] := hl
  refine lv_aload_n hx hb dX6_doneShare_0 rfl (lv_at hl 0 rfl) ?_
  refine lv_iload_n hx hb dX6_doneShare_1 rfl (lv_at hl 1 rfl) ?_
  exact x_outT (x_VT hx hb hml hown hE hS hl.1 cyX6_existingCase tw571 (t_X6_existingCase l hst g h I n x hC.2.1 hx0) ⟨Nat.le_of_ble_eq_true rfl, Nat.le_of_ble_eq_true rfl⟩ ⟨Nat.le_of_ble_eq_true rfl, Nat.le_of_ble_eq_true rfl⟩ (x_recv hK hH (id := [0]) (by first | trivial | (simp only [xD]; omega) | (simp [xD]; done) | (simp [xD]; omega)) (ci := 6) rfl (by decide) rfl) hH rfl rfl (Nat.le_of_ble_eq_true rfl) dX6_doneShare_2) hS hout hlocks (fun _ hq => hq) (Nat.le_of_ble_eq_true rfl) (Nat.le_of_ble_eq_true rfl)

set_option maxHeartbeats 1000000 in
set_option maxRecDepth 100000 in
theorem t_X6_state_c (l : Launch) (hst : l.stackTraces = false) (g : xG) (h : xS) (I : xI) (n : Nat) (hC : xWc h I) (x : Int32) (hx0 : x < 0 ∨ nI (sNc h) ≤ x) (y0 : Int32)  : xTc l yX6_state (xws yX6_state cX6_state 3 (some FieldType.char)) 8 135 g [.ref (ga g [0]), .int x, .int y0] (xR g (xD h) I (xFh h) n) eIO (xG_ g (xD h) I (xFh h) n) 1 6 := by
  refine xTc.of (by decide) (Nat.le_of_ble_eq_true rfl) ?_
  intro P_ e_ s m_ bl_ mt_ cd_ ls hx hb hr hown hlocks hml hout hE hK hts hH hS hl
  have hl : lv_has ls 3 [(0, .ref (ga g [0])), (1, .int x), (2, .int y0)] := hl
  refine lv_aload_n hx hb dX6_state_0 rfl (lv_at hl 0 rfl) ?_
  refine lv_iload_n hx hb dX6_state_1 rfl (lv_at hl 1 rfl) ?_
  refine lv_iload_n hx hb dX6_state_2 rfl (lv_at hl 2 rfl) ?_
  exact x_outT (x_VT hx hb hml hown hE hS hl.1 cyX6_caseWithStep tw651 (t_X6_caseWithStep_c l hst g h I n x hC.2.1 hx0 y0) ⟨Nat.le_of_ble_eq_true rfl, Nat.le_of_ble_eq_true rfl⟩ ⟨Nat.le_of_ble_eq_true rfl, Nat.le_of_ble_eq_true rfl⟩ (x_recv hK hH (id := [0]) (by first | trivial | (simp only [xD]; omega) | (simp [xD]; done) | (simp [xD]; omega)) (ci := 6) rfl (by decide) rfl) hH rfl rfl (Nat.le_of_ble_eq_true rfl) dX6_state_3) hS hout hlocks (fun _ hq => hq) (Nat.le_of_ble_eq_true rfl) (Nat.le_of_ble_eq_true rfl)

set_option maxHeartbeats 1000000 in
set_option maxRecDepth 100000 in
theorem t_X6_state_s (l : Launch) (hst : l.stackTraces = false) (g : xG) (h : xS) (I : xI) (n : Nat) (hW : xWs0 h I) (hC : xWc h I) (c : Nat) (hc : c < sNc h) (x : Int32) (hx0 : x < 0 ∨ nI (sSz h (sPl h c)) ≤ x)  : xTc l yX6_state (xws yX6_state cX6_state 3 (some FieldType.char)) 8 135 g [.ref (ga g [0]), .int (nI c), .int x] (xR g (xD h) I (xFh h) n) eIO (xG_ g (xD h) I (xFh h) n) 1 6 := by
  refine xTc.of (by decide) (Nat.le_of_ble_eq_true rfl) ?_
  intro P_ e_ s m_ bl_ mt_ cd_ ls hx hb hr hown hlocks hml hout hE hK hts hH hS hl
  have hl : lv_has ls 3 [(0, .ref (ga g [0])), (1, .int (nI c)), (2, .int x)] := hl
  have hpp := (hC.2.2 c hc).1
  have hch := (hC.2.2 c hc).2
  have hWp := hW.2.2 _ hpp
  have h4 := hC.1
  have h3 := hW.1
  have h8 := hWp.1
  refine lv_aload_n hx hb dX6_state_0 rfl (lv_at hl 0 rfl) ?_
  refine lv_iload_n hx hb dX6_state_1 rfl (lv_at hl 1 rfl) ?_
  refine lv_iload_n hx hb dX6_state_2 rfl (lv_at hl 2 rfl) ?_
  exact x_outT (x_VT hx hb hml hown hE hS hl.1 cyX6_caseWithStep tw651 (t_X6_caseWithStep_s l hst g h I n c hc h4 hC.2.1 (sPl h c) rfl hpp x hWp.2.2.1 hx0) ⟨Nat.le_of_ble_eq_true rfl, Nat.le_of_ble_eq_true rfl⟩ ⟨Nat.le_of_ble_eq_true rfl, Nat.le_of_ble_eq_true rfl⟩ (x_recv hK hH (id := [0]) (by first | trivial | (simp only [xD]; omega) | (simp [xD]; done) | (simp [xD]; omega)) (ci := 6) rfl (by decide) rfl) hH rfl rfl (Nat.le_of_ble_eq_true rfl) dX6_state_3) hS hout hlocks (fun _ hq => hq) (Nat.le_of_ble_eq_true rfl) (Nat.le_of_ble_eq_true rfl)

set_option maxHeartbeats 1000000 in
set_option maxRecDepth 100000 in
theorem t_X6_stateByReplay_c (l : Launch) (hst : l.stackTraces = false) (g : xG) (h : xS) (I : xI) (n : Nat) (hC : xWc h I) (x : Int32) (hx0 : x < 0 ∨ nI (sNc h) ≤ x) (y0 : Int32)  : xTc l yX6_stateByReplay (xws yX6_stateByReplay cX6_stateByReplay 3 (some FieldType.char)) 8 135 g [.ref (ga g [0]), .int x, .int y0] (xR g (xD h) I (xFh h) n) eIO (xG_ g (xD h) I (xFh h) n) 1 6 := by
  refine xTc.of (by decide) (Nat.le_of_ble_eq_true rfl) ?_
  intro P_ e_ s m_ bl_ mt_ cd_ ls hx hb hr hown hlocks hml hout hE hK hts hH hS hl
  have hl : lv_has ls 3 [(0, .ref (ga g [0])), (1, .int x), (2, .int y0)] := hl
  refine lv_aload_n hx hb dX6_stateByReplay_0 rfl (lv_at hl 0 rfl) ?_
  refine lv_iload_n hx hb dX6_stateByReplay_1 rfl (lv_at hl 1 rfl) ?_
  refine lv_iload_n hx hb dX6_stateByReplay_2 rfl (lv_at hl 2 rfl) ?_
  exact x_outT (x_VT hx hb hml hown hE hS hl.1 cyX6_caseWithStep tw651 (t_X6_caseWithStep_c l hst g h I n x hC.2.1 hx0 y0) ⟨Nat.le_of_ble_eq_true rfl, Nat.le_of_ble_eq_true rfl⟩ ⟨Nat.le_of_ble_eq_true rfl, Nat.le_of_ble_eq_true rfl⟩ (x_recv hK hH (id := [0]) (by first | trivial | (simp only [xD]; omega) | (simp [xD]; done) | (simp [xD]; omega)) (ci := 6) rfl (by decide) rfl) hH rfl rfl (Nat.le_of_ble_eq_true rfl) dX6_stateByReplay_3) hS hout hlocks (fun _ hq => hq) (Nat.le_of_ble_eq_true rfl) (Nat.le_of_ble_eq_true rfl)

set_option maxHeartbeats 1000000 in
set_option maxRecDepth 100000 in
theorem t_X6_stateByReplay_s (l : Launch) (hst : l.stackTraces = false) (g : xG) (h : xS) (I : xI) (n : Nat) (hW : xWs0 h I) (hC : xWc h I) (c : Nat) (hc : c < sNc h) (x : Int32) (hx0 : x < 0 ∨ nI (sSz h (sPl h c)) ≤ x)  : xTc l yX6_stateByReplay (xws yX6_stateByReplay cX6_stateByReplay 3 (some FieldType.char)) 8 135 g [.ref (ga g [0]), .int (nI c), .int x] (xR g (xD h) I (xFh h) n) eIO (xG_ g (xD h) I (xFh h) n) 1 6 := by
  refine xTc.of (by decide) (Nat.le_of_ble_eq_true rfl) ?_
  intro P_ e_ s m_ bl_ mt_ cd_ ls hx hb hr hown hlocks hml hout hE hK hts hH hS hl
  have hl : lv_has ls 3 [(0, .ref (ga g [0])), (1, .int (nI c)), (2, .int x)] := hl
  have hpp := (hC.2.2 c hc).1
  have hch := (hC.2.2 c hc).2
  have hWp := hW.2.2 _ hpp
  have h4 := hC.1
  have h3 := hW.1
  have h8 := hWp.1
  refine lv_aload_n hx hb dX6_stateByReplay_0 rfl (lv_at hl 0 rfl) ?_
  refine lv_iload_n hx hb dX6_stateByReplay_1 rfl (lv_at hl 1 rfl) ?_
  refine lv_iload_n hx hb dX6_stateByReplay_2 rfl (lv_at hl 2 rfl) ?_
  exact x_outT (x_VT hx hb hml hown hE hS hl.1 cyX6_caseWithStep tw651 (t_X6_caseWithStep_s l hst g h I n c hc h4 hC.2.1 (sPl h c) rfl hpp x hWp.2.2.1 hx0) ⟨Nat.le_of_ble_eq_true rfl, Nat.le_of_ble_eq_true rfl⟩ ⟨Nat.le_of_ble_eq_true rfl, Nat.le_of_ble_eq_true rfl⟩ (x_recv hK hH (id := [0]) (by first | trivial | (simp only [xD]; omega) | (simp [xD]; done) | (simp [xD]; omega)) (ci := 6) rfl (by decide) rfl) hH rfl rfl (Nat.le_of_ble_eq_true rfl) dX6_stateByReplay_3) hS hout hlocks (fun _ hq => hq) (Nat.le_of_ble_eq_true rfl) (Nat.le_of_ble_eq_true rfl)

set_option maxHeartbeats 1000000 in
set_option maxRecDepth 100000 in
theorem t_X6_clock_c (l : Launch) (hst : l.stackTraces = false) (g : xG) (h : xS) (I : xI) (n : Nat) (hC : xWc h I) (x : Int32) (hx0 : x < 0 ∨ nI (sNc h) ≤ x) (y0 : Int32)  : xTc l yX6_clock (xws yX6_clock cX6_clock 3 (some FieldType.int)) 8 135 g [.ref (ga g [0]), .int x, .int y0] (xR g (xD h) I (xFh h) n) eIO (xG_ g (xD h) I (xFh h) n) 1 6 := by
  refine xTc.of (by decide) (Nat.le_of_ble_eq_true rfl) ?_
  intro P_ e_ s m_ bl_ mt_ cd_ ls hx hb hr hown hlocks hml hout hE hK hts hH hS hl
  have hl : lv_has ls 3 [(0, .ref (ga g [0])), (1, .int x), (2, .int y0)] := hl
  refine lv_aload_n hx hb dX6_clock_0 rfl (lv_at hl 0 rfl) ?_
  refine lv_iload_n hx hb dX6_clock_1 rfl (lv_at hl 1 rfl) ?_
  refine lv_iload_n hx hb dX6_clock_2 rfl (lv_at hl 2 rfl) ?_
  exact x_outT (x_VT hx hb hml hown hE hS hl.1 cyX6_caseWithStep tw651 (t_X6_caseWithStep_c l hst g h I n x hC.2.1 hx0 y0) ⟨Nat.le_of_ble_eq_true rfl, Nat.le_of_ble_eq_true rfl⟩ ⟨Nat.le_of_ble_eq_true rfl, Nat.le_of_ble_eq_true rfl⟩ (x_recv hK hH (id := [0]) (by first | trivial | (simp only [xD]; omega) | (simp [xD]; done) | (simp [xD]; omega)) (ci := 6) rfl (by decide) rfl) hH rfl rfl (Nat.le_of_ble_eq_true rfl) dX6_clock_3) hS hout hlocks (fun _ hq => hq) (Nat.le_of_ble_eq_true rfl) (Nat.le_of_ble_eq_true rfl)

set_option maxHeartbeats 1000000 in
set_option maxRecDepth 100000 in
theorem t_X6_clock_s (l : Launch) (hst : l.stackTraces = false) (g : xG) (h : xS) (I : xI) (n : Nat) (hW : xWs0 h I) (hC : xWc h I) (c : Nat) (hc : c < sNc h) (x : Int32) (hx0 : x < 0 ∨ nI (sSz h (sPl h c)) ≤ x)  : xTc l yX6_clock (xws yX6_clock cX6_clock 3 (some FieldType.int)) 8 135 g [.ref (ga g [0]), .int (nI c), .int x] (xR g (xD h) I (xFh h) n) eIO (xG_ g (xD h) I (xFh h) n) 1 6 := by
  refine xTc.of (by decide) (Nat.le_of_ble_eq_true rfl) ?_
  intro P_ e_ s m_ bl_ mt_ cd_ ls hx hb hr hown hlocks hml hout hE hK hts hH hS hl
  have hl : lv_has ls 3 [(0, .ref (ga g [0])), (1, .int (nI c)), (2, .int x)] := hl
  have hpp := (hC.2.2 c hc).1
  have hch := (hC.2.2 c hc).2
  have hWp := hW.2.2 _ hpp
  have h4 := hC.1
  have h3 := hW.1
  have h8 := hWp.1
  refine lv_aload_n hx hb dX6_clock_0 rfl (lv_at hl 0 rfl) ?_
  refine lv_iload_n hx hb dX6_clock_1 rfl (lv_at hl 1 rfl) ?_
  refine lv_iload_n hx hb dX6_clock_2 rfl (lv_at hl 2 rfl) ?_
  exact x_outT (x_VT hx hb hml hown hE hS hl.1 cyX6_caseWithStep tw651 (t_X6_caseWithStep_s l hst g h I n c hc h4 hC.2.1 (sPl h c) rfl hpp x hWp.2.2.1 hx0) ⟨Nat.le_of_ble_eq_true rfl, Nat.le_of_ble_eq_true rfl⟩ ⟨Nat.le_of_ble_eq_true rfl, Nat.le_of_ble_eq_true rfl⟩ (x_recv hK hH (id := [0]) (by first | trivial | (simp only [xD]; omega) | (simp [xD]; done) | (simp [xD]; omega)) (ci := 6) rfl (by decide) rfl) hH rfl rfl (Nat.le_of_ble_eq_true rfl) dX6_clock_3) hS hout hlocks (fun _ hq => hq) (Nat.le_of_ble_eq_true rfl) (Nat.le_of_ble_eq_true rfl)

set_option maxHeartbeats 1000000 in
set_option maxRecDepth 100000 in
theorem t_X6_clockByReplay_c (l : Launch) (hst : l.stackTraces = false) (g : xG) (h : xS) (I : xI) (n : Nat) (hC : xWc h I) (x : Int32) (hx0 : x < 0 ∨ nI (sNc h) ≤ x) (y0 : Int32)  : xTc l yX6_clockByReplay (xws yX6_clockByReplay cX6_clockByReplay 3 (some FieldType.int)) 8 135 g [.ref (ga g [0]), .int x, .int y0] (xR g (xD h) I (xFh h) n) eIO (xG_ g (xD h) I (xFh h) n) 1 6 := by
  refine xTc.of (by decide) (Nat.le_of_ble_eq_true rfl) ?_
  intro P_ e_ s m_ bl_ mt_ cd_ ls hx hb hr hown hlocks hml hout hE hK hts hH hS hl
  have hl : lv_has ls 3 [(0, .ref (ga g [0])), (1, .int x), (2, .int y0)] := hl
  refine lv_aload_n hx hb dX6_clockByReplay_0 rfl (lv_at hl 0 rfl) ?_
  refine lv_iload_n hx hb dX6_clockByReplay_1 rfl (lv_at hl 1 rfl) ?_
  refine lv_iload_n hx hb dX6_clockByReplay_2 rfl (lv_at hl 2 rfl) ?_
  exact x_outT (x_VT hx hb hml hown hE hS hl.1 cyX6_caseWithStep tw651 (t_X6_caseWithStep_c l hst g h I n x hC.2.1 hx0 y0) ⟨Nat.le_of_ble_eq_true rfl, Nat.le_of_ble_eq_true rfl⟩ ⟨Nat.le_of_ble_eq_true rfl, Nat.le_of_ble_eq_true rfl⟩ (x_recv hK hH (id := [0]) (by first | trivial | (simp only [xD]; omega) | (simp [xD]; done) | (simp [xD]; omega)) (ci := 6) rfl (by decide) rfl) hH rfl rfl (Nat.le_of_ble_eq_true rfl) dX6_clockByReplay_3) hS hout hlocks (fun _ hq => hq) (Nat.le_of_ble_eq_true rfl) (Nat.le_of_ble_eq_true rfl)

set_option maxHeartbeats 1000000 in
set_option maxRecDepth 100000 in
theorem t_X6_clockByReplay_s (l : Launch) (hst : l.stackTraces = false) (g : xG) (h : xS) (I : xI) (n : Nat) (hW : xWs0 h I) (hC : xWc h I) (c : Nat) (hc : c < sNc h) (x : Int32) (hx0 : x < 0 ∨ nI (sSz h (sPl h c)) ≤ x)  : xTc l yX6_clockByReplay (xws yX6_clockByReplay cX6_clockByReplay 3 (some FieldType.int)) 8 135 g [.ref (ga g [0]), .int (nI c), .int x] (xR g (xD h) I (xFh h) n) eIO (xG_ g (xD h) I (xFh h) n) 1 6 := by
  refine xTc.of (by decide) (Nat.le_of_ble_eq_true rfl) ?_
  intro P_ e_ s m_ bl_ mt_ cd_ ls hx hb hr hown hlocks hml hout hE hK hts hH hS hl
  have hl : lv_has ls 3 [(0, .ref (ga g [0])), (1, .int (nI c)), (2, .int x)] := hl
  have hpp := (hC.2.2 c hc).1
  have hch := (hC.2.2 c hc).2
  have hWp := hW.2.2 _ hpp
  have h4 := hC.1
  have h3 := hW.1
  have h8 := hWp.1
  refine lv_aload_n hx hb dX6_clockByReplay_0 rfl (lv_at hl 0 rfl) ?_
  refine lv_iload_n hx hb dX6_clockByReplay_1 rfl (lv_at hl 1 rfl) ?_
  refine lv_iload_n hx hb dX6_clockByReplay_2 rfl (lv_at hl 2 rfl) ?_
  exact x_outT (x_VT hx hb hml hown hE hS hl.1 cyX6_caseWithStep tw651 (t_X6_caseWithStep_s l hst g h I n c hc h4 hC.2.1 (sPl h c) rfl hpp x hWp.2.2.1 hx0) ⟨Nat.le_of_ble_eq_true rfl, Nat.le_of_ble_eq_true rfl⟩ ⟨Nat.le_of_ble_eq_true rfl, Nat.le_of_ble_eq_true rfl⟩ (x_recv hK hH (id := [0]) (by first | trivial | (simp only [xD]; omega) | (simp [xD]; done) | (simp [xD]; omega)) (ci := 6) rfl (by decide) rfl) hH rfl rfl (Nat.le_of_ble_eq_true rfl) dX6_clockByReplay_3) hS hout hlocks (fun _ hq => hq) (Nat.le_of_ble_eq_true rfl) (Nat.le_of_ble_eq_true rfl)

set_option maxHeartbeats 1000000 in
set_option maxRecDepth 100000 in
theorem t_X6_count_c (l : Launch) (hst : l.stackTraces = false) (g : xG) (h : xS) (I : xI) (n : Nat) (hC : xWc h I) (x : Int32) (hx0 : x < 0 ∨ nI (sNc h) ≤ x) (y0 : Int32)  : xTc l yX6_count (xws yX6_count cX6_count 3 (some FieldType.int)) 8 135 g [.ref (ga g [0]), .int x, .int y0] (xR g (xD h) I (xFh h) n) eIO (xG_ g (xD h) I (xFh h) n) 1 6 := by
  refine xTc.of (by decide) (Nat.le_of_ble_eq_true rfl) ?_
  intro P_ e_ s m_ bl_ mt_ cd_ ls hx hb hr hown hlocks hml hout hE hK hts hH hS hl
  have hl : lv_has ls 3 [(0, .ref (ga g [0])), (1, .int x), (2, .int y0)] := hl
  refine lv_aload_n hx hb dX6_count_0 rfl (lv_at hl 0 rfl) ?_
  refine lv_iload_n hx hb dX6_count_1 rfl (lv_at hl 1 rfl) ?_
  refine lv_iload_n hx hb dX6_count_2 rfl (lv_at hl 2 rfl) ?_
  exact x_outT (x_VT hx hb hml hown hE hS hl.1 cyX6_caseWithStep tw651 (t_X6_caseWithStep_c l hst g h I n x hC.2.1 hx0 y0) ⟨Nat.le_of_ble_eq_true rfl, Nat.le_of_ble_eq_true rfl⟩ ⟨Nat.le_of_ble_eq_true rfl, Nat.le_of_ble_eq_true rfl⟩ (x_recv hK hH (id := [0]) (by first | trivial | (simp only [xD]; omega) | (simp [xD]; done) | (simp [xD]; omega)) (ci := 6) rfl (by decide) rfl) hH rfl rfl (Nat.le_of_ble_eq_true rfl) dX6_count_3) hS hout hlocks (fun _ hq => hq) (Nat.le_of_ble_eq_true rfl) (Nat.le_of_ble_eq_true rfl)

set_option maxHeartbeats 1000000 in
set_option maxRecDepth 100000 in
theorem t_X6_count_s (l : Launch) (hst : l.stackTraces = false) (g : xG) (h : xS) (I : xI) (n : Nat) (hW : xWs0 h I) (hC : xWc h I) (c : Nat) (hc : c < sNc h) (x : Int32) (hx0 : x < 0 ∨ nI (sSz h (sPl h c)) ≤ x)  : xTc l yX6_count (xws yX6_count cX6_count 3 (some FieldType.int)) 8 135 g [.ref (ga g [0]), .int (nI c), .int x] (xR g (xD h) I (xFh h) n) eIO (xG_ g (xD h) I (xFh h) n) 1 6 := by
  refine xTc.of (by decide) (Nat.le_of_ble_eq_true rfl) ?_
  intro P_ e_ s m_ bl_ mt_ cd_ ls hx hb hr hown hlocks hml hout hE hK hts hH hS hl
  have hl : lv_has ls 3 [(0, .ref (ga g [0])), (1, .int (nI c)), (2, .int x)] := hl
  have hpp := (hC.2.2 c hc).1
  have hch := (hC.2.2 c hc).2
  have hWp := hW.2.2 _ hpp
  have h4 := hC.1
  have h3 := hW.1
  have h8 := hWp.1
  refine lv_aload_n hx hb dX6_count_0 rfl (lv_at hl 0 rfl) ?_
  refine lv_iload_n hx hb dX6_count_1 rfl (lv_at hl 1 rfl) ?_
  refine lv_iload_n hx hb dX6_count_2 rfl (lv_at hl 2 rfl) ?_
  exact x_outT (x_VT hx hb hml hown hE hS hl.1 cyX6_caseWithStep tw651 (t_X6_caseWithStep_s l hst g h I n c hc h4 hC.2.1 (sPl h c) rfl hpp x hWp.2.2.1 hx0) ⟨Nat.le_of_ble_eq_true rfl, Nat.le_of_ble_eq_true rfl⟩ ⟨Nat.le_of_ble_eq_true rfl, Nat.le_of_ble_eq_true rfl⟩ (x_recv hK hH (id := [0]) (by first | trivial | (simp only [xD]; omega) | (simp [xD]; done) | (simp [xD]; omega)) (ci := 6) rfl (by decide) rfl) hH rfl rfl (Nat.le_of_ble_eq_true rfl) dX6_count_3) hS hout hlocks (fun _ hq => hq) (Nat.le_of_ble_eq_true rfl) (Nat.le_of_ble_eq_true rfl)

set_option maxHeartbeats 1000000 in
set_option maxRecDepth 100000 in
theorem t_X6_isLate_c (l : Launch) (hst : l.stackTraces = false) (g : xG) (h : xS) (I : xI) (n : Nat) (hC : xWc h I) (x : Int32) (hx0 : x < 0 ∨ nI (sNc h) ≤ x) (y0 : Int32)  : xTc l yX6_isLate (xws yX6_isLate cX6_isLate 4 (some FieldType.boolean)) 8 135 g [.ref (ga g [0]), .int x, .int y0] (xR g (xD h) I (xFh h) n) eIO (xG_ g (xD h) I (xFh h) n) 1 6 := by
  refine xTc.of (by decide) (Nat.le_of_ble_eq_true rfl) ?_
  intro P_ e_ s m_ bl_ mt_ cd_ ls hx hb hr hown hlocks hml hout hE hK hts hH hS hl
  have hl : lv_has ls 4 [(0, .ref (ga g [0])), (1, .int x), (2, .int y0)] := hl
  refine lv_aload_n hx hb dX6_isLate_0 rfl (lv_at hl 0 rfl) ?_
  refine lv_iload_n hx hb dX6_isLate_1 rfl (lv_at hl 1 rfl) ?_
  refine lv_iload_n hx hb dX6_isLate_2 rfl (lv_at hl 2 rfl) ?_
  exact x_outT (x_VT hx hb hml hown hE hS hl.1 cyX6_caseWithStep tw651 (t_X6_caseWithStep_c l hst g h I n x hC.2.1 hx0 y0) ⟨Nat.le_of_ble_eq_true rfl, Nat.le_of_ble_eq_true rfl⟩ ⟨Nat.le_of_ble_eq_true rfl, Nat.le_of_ble_eq_true rfl⟩ (x_recv hK hH (id := [0]) (by first | trivial | (simp only [xD]; omega) | (simp [xD]; done) | (simp [xD]; omega)) (ci := 6) rfl (by decide) rfl) hH rfl rfl (Nat.le_of_ble_eq_true rfl) dX6_isLate_3) hS hout hlocks (fun _ hq => hq) (Nat.le_of_ble_eq_true rfl) (Nat.le_of_ble_eq_true rfl)

set_option maxHeartbeats 1000000 in
set_option maxRecDepth 100000 in
theorem t_X6_isLate_s (l : Launch) (hst : l.stackTraces = false) (g : xG) (h : xS) (I : xI) (n : Nat) (hW : xWs0 h I) (hC : xWc h I) (c : Nat) (hc : c < sNc h) (x : Int32) (hx0 : x < 0 ∨ nI (sSz h (sPl h c)) ≤ x)  : xTc l yX6_isLate (xws yX6_isLate cX6_isLate 4 (some FieldType.boolean)) 8 135 g [.ref (ga g [0]), .int (nI c), .int x] (xR g (xD h) I (xFh h) n) eIO (xG_ g (xD h) I (xFh h) n) 1 6 := by
  refine xTc.of (by decide) (Nat.le_of_ble_eq_true rfl) ?_
  intro P_ e_ s m_ bl_ mt_ cd_ ls hx hb hr hown hlocks hml hout hE hK hts hH hS hl
  have hl : lv_has ls 4 [(0, .ref (ga g [0])), (1, .int (nI c)), (2, .int x)] := hl
  have hpp := (hC.2.2 c hc).1
  have hch := (hC.2.2 c hc).2
  have hWp := hW.2.2 _ hpp
  have h4 := hC.1
  have h3 := hW.1
  have h8 := hWp.1
  refine lv_aload_n hx hb dX6_isLate_0 rfl (lv_at hl 0 rfl) ?_
  refine lv_iload_n hx hb dX6_isLate_1 rfl (lv_at hl 1 rfl) ?_
  refine lv_iload_n hx hb dX6_isLate_2 rfl (lv_at hl 2 rfl) ?_
  exact x_outT (x_VT hx hb hml hown hE hS hl.1 cyX6_caseWithStep tw651 (t_X6_caseWithStep_s l hst g h I n c hc h4 hC.2.1 (sPl h c) rfl hpp x hWp.2.2.1 hx0) ⟨Nat.le_of_ble_eq_true rfl, Nat.le_of_ble_eq_true rfl⟩ ⟨Nat.le_of_ble_eq_true rfl, Nat.le_of_ble_eq_true rfl⟩ (x_recv hK hH (id := [0]) (by first | trivial | (simp only [xD]; omega) | (simp [xD]; done) | (simp [xD]; omega)) (ci := 6) rfl (by decide) rfl) hH rfl rfl (Nat.le_of_ble_eq_true rfl) dX6_isLate_3) hS hout hlocks (fun _ hq => hq) (Nat.le_of_ble_eq_true rfl) (Nat.le_of_ble_eq_true rfl)

set_option maxHeartbeats 1000000 in
set_option maxRecDepth 100000 in
theorem t_X6_complete_s (l : Launch) (hst : l.stackTraces = false) (g : xG) (h : xS) (I : xI) (n : Nat) (hW : xWs0 h I) (hC : xWc h I) (c : Nat) (hc : c < sNc h) (x : Int32) (hx0 : x < 0 ∨ nI (sSz h (sPl h c)) ≤ x)  : xTc l yX6_complete (xws yX6_complete cX6_complete 4 (some FieldType.int)) 7 112 g [.ref (ga g [0]), .int (nI c), .int x] (xR g (xD h) I (xFh h) n) eIO (xG_ g (xD h) I (xFh h) n) 1 6 := by
  refine xTc.of (by decide) (Nat.le_of_ble_eq_true rfl) ?_
  intro P_ e_ s m_ bl_ mt_ cd_ ls hx hb hr hown hlocks hml hout hE hK hts hH hS hl
  have hl : lv_has ls 4 [(0, .ref (ga g [0])), (1, .int (nI c)), (2, .int x)] := hl
  have hpp := (hC.2.2 c hc).1
  have hch := (hC.2.2 c hc).2
  have hWp := hW.2.2 _ hpp
  have h4 := hC.1
  have h3 := hW.1
  have h8 := hWp.1
  refine lv_aload_n hx hb dX6_complete_0 rfl (lv_at hl 0 rfl) ?_
  refine lv_iload_n hx hb dX6_complete_1 rfl (lv_at hl 1 rfl) ?_
  refine x_V1 hx hb hml hown hE hS hl.1 cyX6_existingCase tw571 (c_X6_existingCase l g h I n c hc h4 hC.2.1) ⟨Nat.le_of_ble_eq_true rfl, Nat.le_of_ble_eq_true rfl⟩ ⟨Nat.le_of_ble_eq_true rfl, Nat.le_of_ble_eq_true rfl⟩ (x_recv hK hH (id := [0]) (by first | trivial | (simp only [xD]; omega) | (simp [xD]; done) | (simp [xD]; omega)) (ci := 6) rfl (by decide) rfl) hH rfl rfl (Nat.le_of_ble_eq_true rfl) dX6_complete_2 (fun H locs hH hS => ?_)
  refine lv_astore_n (lv' := [(3, .ref (ga g [11, c, 0])), (0, .ref (ga g [0])), (1, .int (nI c)), (2, .int x)]) hx hb dX6_complete_5 rfl hl (by decide) rfl (fun ls hl => ?_)
  refine lv_aload_n hx hb dX6_complete_6 rfl (lv_at hl 0 rfl) ?_
  refine x_get (C := RX0) (T := TX0) (N := 11) (ci := 0) hx hb hts iu0 hown hK hH (id := [11, c, 0]) (by first | trivial | (simp only [xD]; omega) | (simp [xD]; done) | (simp [xD]; omega)) rfl rfl (by decide) 0 (by decide) (hts _ tw91) (fun _ h9 => h9) rfl (v := .ref (ga g [5, sPl h c])) rfl dX6_complete_7 ?_
  refine lv_iload_n hx hb dX6_complete_10 rfl (lv_at hl 3 rfl) ?_
  exact x_outT (x_ST hx hb hml hown hE hS hl.1 cyX6_existingStep tw372 (t_X6_existingStep l hst g h I n (sPl h c) x hpp hWp.2.2.1 hx0) ⟨Nat.le_of_ble_eq_true rfl, Nat.le_of_ble_eq_true rfl⟩ ⟨Nat.le_of_ble_eq_true rfl, Nat.le_of_ble_eq_true rfl⟩ hH rfl rfl (Nat.le_of_ble_eq_true rfl) dX6_complete_11) hS hout hlocks (fun _ hq => hq) (Nat.le_of_ble_eq_true rfl) (Nat.le_of_ble_eq_true rfl)

set_option maxHeartbeats 1000000 in
set_option maxRecDepth 100000 in
theorem t_X6_holds_s (l : Launch) (hst : l.stackTraces = false) (g : xG) (h : xS) (I : xI) (n : Nat) (hW : xWs0 h I) (hC : xWc h I) (c : Nat) (hc : c < sNc h) (x : Int32) (hx0 : x < 0 ∨ nI (sSz h (sPl h c)) ≤ x) (y0 y1 : Int32)  : xTc l yX6_holds (xws yX6_holds cX6_holds 9 (some FieldType.boolean)) 7 112 g [.ref (ga g [0]), .int (nI c), .int x, .int y0, .int y1] (xR g (xD h) I (xFh h) n) eIO (xG_ g (xD h) I (xFh h) n) 1 6 := by
  refine xTc.of (by decide) (Nat.le_of_ble_eq_true rfl) ?_
  intro P_ e_ s m_ bl_ mt_ cd_ ls hx hb hr hown hlocks hml hout hE hK hts hH hS hl
  have hl : lv_has ls 9 [(0, .ref (ga g [0])), (1, .int (nI c)), (2, .int x), (3, .int y0), (4, .int y1)] := hl
  have hpp := (hC.2.2 c hc).1
  have hch := (hC.2.2 c hc).2
  have hWp := hW.2.2 _ hpp
  have h4 := hC.1
  have h3 := hW.1
  have h8 := hWp.1
  refine lv_aload_n hx hb dX6_holds_0 rfl (lv_at hl 0 rfl) ?_
  refine lv_iload_n hx hb dX6_holds_1 rfl (lv_at hl 1 rfl) ?_
  refine x_V1 hx hb hml hown hE hS hl.1 cyX6_existingCase tw571 (c_X6_existingCase l g h I n c hc h4 hC.2.1) ⟨Nat.le_of_ble_eq_true rfl, Nat.le_of_ble_eq_true rfl⟩ ⟨Nat.le_of_ble_eq_true rfl, Nat.le_of_ble_eq_true rfl⟩ (x_recv hK hH (id := [0]) (by first | trivial | (simp only [xD]; omega) | (simp [xD]; done) | (simp [xD]; omega)) (ci := 6) rfl (by decide) rfl) hH rfl rfl (Nat.le_of_ble_eq_true rfl) dX6_holds_2 (fun H locs hH hS => ?_)
  refine lv_astore (lv' := [(5, .ref (ga g [11, c, 0])), (0, .ref (ga g [0])), (1, .int (nI c)), (2, .int x), (3, .int y0), (4, .int y1)]) hx hb dX6_holds_5 hl (by decide) rfl (fun ls hl => ?_)
  refine lv_aload hx hb dX6_holds_7 (lv_at hl 0 rfl) ?_
  refine x_get (C := RX0) (T := TX0) (N := 11) (ci := 0) hx hb hts iu0 hown hK hH (id := [11, c, 0]) (by first | trivial | (simp only [xD]; omega) | (simp [xD]; done) | (simp [xD]; omega)) rfl rfl (by decide) 0 (by decide) (hts _ tw91) (fun _ h9 => h9) rfl (v := .ref (ga g [5, sPl h c])) rfl dX6_holds_9 ?_
  refine lv_iload_n hx hb dX6_holds_12 rfl (lv_at hl 3 rfl) ?_
  exact x_outT (x_ST hx hb hml hown hE hS hl.1 cyX6_existingStep tw372 (t_X6_existingStep l hst g h I n (sPl h c) x hpp hWp.2.2.1 hx0) ⟨Nat.le_of_ble_eq_true rfl, Nat.le_of_ble_eq_true rfl⟩ ⟨Nat.le_of_ble_eq_true rfl, Nat.le_of_ble_eq_true rfl⟩ hH rfl rfl (Nat.le_of_ble_eq_true rfl) dX6_holds_13) hS hout hlocks (fun _ hq => hq) (Nat.le_of_ble_eq_true rfl) (Nat.le_of_ble_eq_true rfl)

set_option maxHeartbeats 1000000 in
set_option maxRecDepth 100000 in
theorem t_X6_addPlan_f (l : Launch) (hst : l.stackTraces = false) (g : xG) (h : xS) (I : xI) (n : Nat) (hW : xWs0 h I) (h3 : sNp h = 3) : xTc l yX6_addPlan (xws yX6_addPlan cX6_addPlan 2 (some FieldType.int)) 6 90 g [.ref (ga g [0])] (xR g (xD h) I (xFh h) n) eIS (xG_ g (xD h) I (xFh h) n) 1 6 := by
  refine xTc.of (by decide) (Nat.le_of_ble_eq_true rfl) ?_
  intro P_ e_ s m_ bl_ mt_ cd_ ls hx hb hr hown hlocks hml hout hE hK hts hH hS hl
  have hl : lv_has ls 2 [(0, .ref (ga g [0]))] := hl
  refine lv_aload_n hx hb dX6_addPlan_0 rfl (lv_at hl 0 rfl) ?_
  refine x_get (C := RX6) (T := TX6) (N := 6) (ci := 6) hx hb hts iu6 hown hK hH (id := [0]) (by first | trivial | (simp only [xD]; omega) | (simp [xD]; done) | (simp [xD]; omega)) rfl rfl (by decide) 1 (by decide) (hts _ tw132) (fun _ h9 => h9) rfl (v := .int (nI (sNp h))) (congrArg Value.int hW.2.1) dX6_addPlan_1 ?_
  refine lv_if_lt (tgt := 15) hx hb dX6_addPlan_4 (by decide) (fun q_ => absurd q_ (fun z_ => absurd ((nI_ltI (a := (sNp h)) (b := 0) (by omega) (by omega)).mp z_) (by omega))) (fun _ => ?_)
  refine lv_aload_n hx hb dX6_addPlan_7 rfl (lv_at hl 0 rfl) ?_
  refine x_get (C := RX6) (T := TX6) (N := 6) (ci := 6) hx hb hts iu6 hown hK hH (id := [0]) (by first | trivial | (simp only [xD]; omega) | (simp [xD]; done) | (simp [xD]; omega)) rfl rfl (by decide) 1 (by decide) (hts _ tw132) (fun _ h9 => h9) rfl (v := .int (nI (sNp h))) (congrArg Value.int hW.2.1) dX6_addPlan_8 ?_
  refine lv_iconst (v := 3) hx hb dX6_addPlan_11 (by decide) ?_
  refine lv_icmp_lt (tgt := 25) hx hb dX6_addPlan_12 (by decide) (fun q_ => absurd q_ (fun z_ => absurd ((nI_ltI (a := (sNp h)) (b := 3) (by omega) (by omega)).mp z_) (by omega))) (fun _ => ?_)
  exact x_thr (text := "there are 3 plans") hx hb hst hown hE hS hH (hl.1.trans hml.symm) thIS (List.mem_of_getElem? (i := 0) rfl) dX6_addPlan_15 dX6_addPlan_18 dX6_addPlan_19 dX6_addPlan_21 dX6_addPlan_24 hout hlocks (Nat.le_of_ble_eq_true rfl) (Nat.le_of_ble_eq_true rfl) (Nat.le_of_ble_eq_true rfl) (Nat.le_of_ble_eq_true rfl) (Nat.le_of_ble_eq_true rfl) (Nat.le_of_ble_eq_true rfl) (fun _ hq => hq)

set_option maxHeartbeats 1000000 in
set_option maxRecDepth 100000 in
theorem t_X6_addStep_k (l : Launch) (hst : l.stackTraces = false) (g : xG) (h : xS) (I : xI) (n : Nat) (hW : xWs0 h I) (p : Nat) (hpp : p < sNp h) (kd y : Int32) (k1 : ¬ kd = 115) (k2 : ¬ kd = 116) (k3 : ¬ kd = 109) : xTc l yX6_addStep (xws yX6_addStep cX6_addStep 5 (some FieldType.int)) 6 90 g [.ref (ga g [0]), .int (nI p), .int kd, .int y] (xR g (xD h) I (xFh h) n) eIA (xG_ g (xD h) I (xFh h) n) 1 6 := by
  refine xTc.of (by decide) (Nat.le_of_ble_eq_true rfl) ?_
  intro P_ e_ s m_ bl_ mt_ cd_ ls hx hb hr hown hlocks hml hout hE hK hts hH hS hl
  have hl : lv_has ls 5 [(0, .ref (ga g [0])), (1, .int (nI p)), (2, .int kd), (3, .int y)] := hl
  have h3 := hW.1
  have hWp := hW.2.2 _ hpp
  have h8 := hWp.1
  refine lv_aload_n hx hb dX6_addStep_0 rfl (lv_at hl 0 rfl) ?_
  refine lv_iload_n hx hb dX6_addStep_1 rfl (lv_at hl 1 rfl) ?_
  refine x_V1 hx hb hml hown hE hS hl.1 cyX6_existingPlan tw247 (c_X6_existingPlan l g h I n p hpp h3 hW.2.1) ⟨Nat.le_of_ble_eq_true rfl, Nat.le_of_ble_eq_true rfl⟩ ⟨Nat.le_of_ble_eq_true rfl, Nat.le_of_ble_eq_true rfl⟩ (x_recv hK hH (id := [0]) (by first | trivial | (simp only [xD]; omega) | (simp [xD]; done) | (simp [xD]; omega)) (ci := 6) rfl (by decide) rfl) hH rfl rfl (Nat.le_of_ble_eq_true rfl) dX6_addStep_2 (fun H locs hH hS => ?_)
  refine lv_astore (lv' := [(4, .ref (ga g [5, p])), (0, .ref (ga g [0])), (1, .int (nI p)), (2, .int kd), (3, .int y)]) hx hb dX6_addStep_5 hl (by decide) rfl (fun ls hl => ?_)
  refine lv_iload_n hx hb dX6_addStep_7 rfl (lv_at hl 3 rfl) ?_
  refine lv_bipush (v := 115) hx hb dX6_addStep_8 (by decide) ?_
  refine lv_icmp_eq (tgt := 35) hx hb dX6_addStep_10 (by decide) (fun q_ => absurd q_ k1) (fun _ => ?_)
  refine lv_iload_n hx hb dX6_addStep_13 rfl (lv_at hl 3 rfl) ?_
  refine lv_bipush (v := 116) hx hb dX6_addStep_14 (by decide) ?_
  refine lv_icmp_eq (tgt := 35) hx hb dX6_addStep_16 (by decide) (fun q_ => absurd q_ k2) (fun _ => ?_)
  refine lv_iload_n hx hb dX6_addStep_19 rfl (lv_at hl 3 rfl) ?_
  refine lv_bipush (v := 109) hx hb dX6_addStep_20 (by decide) ?_
  refine lv_icmp_eq (tgt := 35) hx hb dX6_addStep_22 (by decide) (fun q_ => absurd q_ k3) (fun _ => ?_)
  exact x_thr (text := "no such kind") hx hb hst hown hE hS hH (hl.1.trans hml.symm) thIA (List.mem_of_getElem? (i := 2) rfl) dX6_addStep_25 dX6_addStep_28 dX6_addStep_29 dX6_addStep_31 dX6_addStep_34 hout hlocks (Nat.le_of_ble_eq_true rfl) (Nat.le_of_ble_eq_true rfl) (Nat.le_of_ble_eq_true rfl) (Nat.le_of_ble_eq_true rfl) (Nat.le_of_ble_eq_true rfl) (Nat.le_of_ble_eq_true rfl) (fun _ hq => hq)

set_option maxHeartbeats 1000000 in
set_option maxRecDepth 100000 in
theorem t_X6_addStep_q (l : Launch) (hst : l.stackTraces = false) (g : xG) (h : xS) (I : xI) (n : Nat) (hW : xWs0 h I) (p : Nat) (hpp : p < sNp h) (kd : Int32) (hkd : kd = 115 ∨ kd = 116 ∨ kd = 109) (x : Int32) (hx1 : ¬ x = -1) (hx0 : x < 0 ∨ nI (sSz h p) ≤ x) : xTc l yX6_addStep (xws yX6_addStep cX6_addStep 5 (some FieldType.int)) 6 90 g [.ref (ga g [0]), .int (nI p), .int kd, .int x] (xR g (xD h) I (xFh h) n) eIA (xG_ g (xD h) I (xFh h) n) 1 6 := by
  refine xTc.of (by decide) (Nat.le_of_ble_eq_true rfl) ?_
  intro P_ e_ s m_ bl_ mt_ cd_ ls hx hb hr hown hlocks hml hout hE hK hts hH hS hl
  have hl : lv_has ls 5 [(0, .ref (ga g [0])), (1, .int (nI p)), (2, .int kd), (3, .int x)] := hl
  have h3 := hW.1
  have hWp := hW.2.2 _ hpp
  have h8 := hWp.1
  refine lv_aload_n hx hb dX6_addStep_0 rfl (lv_at hl 0 rfl) ?_
  refine lv_iload_n hx hb dX6_addStep_1 rfl (lv_at hl 1 rfl) ?_
  refine x_V1 hx hb hml hown hE hS hl.1 cyX6_existingPlan tw247 (c_X6_existingPlan l g h I n p hpp h3 hW.2.1) ⟨Nat.le_of_ble_eq_true rfl, Nat.le_of_ble_eq_true rfl⟩ ⟨Nat.le_of_ble_eq_true rfl, Nat.le_of_ble_eq_true rfl⟩ (x_recv hK hH (id := [0]) (by first | trivial | (simp only [xD]; omega) | (simp [xD]; done) | (simp [xD]; omega)) (ci := 6) rfl (by decide) rfl) hH rfl rfl (Nat.le_of_ble_eq_true rfl) dX6_addStep_2 (fun H locs hH hS => ?_)
  refine lv_astore (lv' := [(4, .ref (ga g [5, p])), (0, .ref (ga g [0])), (1, .int (nI p)), (2, .int kd), (3, .int x)]) hx hb dX6_addStep_5 hl (by decide) rfl (fun ls hl => ?_)
  refine lv_iload_n hx hb dX6_addStep_7 rfl (lv_at hl 3 rfl) ?_
  refine lv_bipush (v := 115) hx hb dX6_addStep_8 (by decide) ?_
  refine lv_icmp_eq (tgt := 35) hx hb dX6_addStep_10 (by decide) (fun c_10 => ?_) (fun c_10 => ?_)
  · skip
    refine lv_iload_n hx hb dX6_addStep_35 rfl (lv_at hl 4 rfl) ?_
    refine lv_iconst (v := (-1)) hx hb dX6_addStep_36 (by decide) ?_
    refine lv_icmp_eq (tgt := 59) hx hb dX6_addStep_37 (by decide) (fun q_ => absurd q_ hx1) (fun _ => ?_)
    refine lv_aload hx hb dX6_addStep_40 (lv_at hl 0 rfl) ?_
    refine lv_iload_n hx hb dX6_addStep_42 rfl (lv_at hl 4 rfl) ?_
    refine x_V1 hx hb hml hown hE hS hl.1 cyX4_isStage tw287 (c_X4_isStage_no l g h I n p x hpp hWp.2.2.1 hx0) ⟨Nat.le_of_ble_eq_true rfl, Nat.le_of_ble_eq_true rfl⟩ ⟨Nat.le_of_ble_eq_true rfl, Nat.le_of_ble_eq_true rfl⟩ (x_recv hK hH (id := [5, p]) (by first | trivial | (simp only [xD]; omega) | (simp [xD]; done) | (simp [xD]; omega)) (ci := 4) rfl (by decide) rfl) hH rfl rfl (Nat.le_of_ble_eq_true rfl) dX6_addStep_43 (fun H locs hH hS => ?_)
    refine lv_if_ne (tgt := 59) hx hb dX6_addStep_46 (by decide) (fun q_ => absurd (by decide) q_) (fun _ => ?_)
    exact x_thr (text := "the parent is no stage of the plan") hx hb hst hown hE hS hH (hl.1.trans hml.symm) thIA (List.mem_of_getElem? (i := 3) rfl) dX6_addStep_49 dX6_addStep_52 dX6_addStep_53 dX6_addStep_55 dX6_addStep_58 hout hlocks (Nat.le_of_ble_eq_true rfl) (Nat.le_of_ble_eq_true rfl) (Nat.le_of_ble_eq_true rfl) (Nat.le_of_ble_eq_true rfl) (Nat.le_of_ble_eq_true rfl) (Nat.le_of_ble_eq_true rfl) (fun _ hq => hq)
  · skip
    refine lv_iload_n hx hb dX6_addStep_13 rfl (lv_at hl 3 rfl) ?_
    refine lv_bipush (v := 116) hx hb dX6_addStep_14 (by decide) ?_
    refine lv_icmp_eq (tgt := 35) hx hb dX6_addStep_16 (by decide) (fun c_16 => ?_) (fun c_16 => ?_)
    · skip
      refine lv_iload_n hx hb dX6_addStep_35 rfl (lv_at hl 4 rfl) ?_
      refine lv_iconst (v := (-1)) hx hb dX6_addStep_36 (by decide) ?_
      refine lv_icmp_eq (tgt := 59) hx hb dX6_addStep_37 (by decide) (fun q_ => absurd q_ hx1) (fun _ => ?_)
      refine lv_aload hx hb dX6_addStep_40 (lv_at hl 0 rfl) ?_
      refine lv_iload_n hx hb dX6_addStep_42 rfl (lv_at hl 4 rfl) ?_
      refine x_V1 hx hb hml hown hE hS hl.1 cyX4_isStage tw287 (c_X4_isStage_no l g h I n p x hpp hWp.2.2.1 hx0) ⟨Nat.le_of_ble_eq_true rfl, Nat.le_of_ble_eq_true rfl⟩ ⟨Nat.le_of_ble_eq_true rfl, Nat.le_of_ble_eq_true rfl⟩ (x_recv hK hH (id := [5, p]) (by first | trivial | (simp only [xD]; omega) | (simp [xD]; done) | (simp [xD]; omega)) (ci := 4) rfl (by decide) rfl) hH rfl rfl (Nat.le_of_ble_eq_true rfl) dX6_addStep_43 (fun H locs hH hS => ?_)
      refine lv_if_ne (tgt := 59) hx hb dX6_addStep_46 (by decide) (fun q_ => absurd (by decide) q_) (fun _ => ?_)
      exact x_thr (text := "the parent is no stage of the plan") hx hb hst hown hE hS hH (hl.1.trans hml.symm) thIA (List.mem_of_getElem? (i := 3) rfl) dX6_addStep_49 dX6_addStep_52 dX6_addStep_53 dX6_addStep_55 dX6_addStep_58 hout hlocks (Nat.le_of_ble_eq_true rfl) (Nat.le_of_ble_eq_true rfl) (Nat.le_of_ble_eq_true rfl) (Nat.le_of_ble_eq_true rfl) (Nat.le_of_ble_eq_true rfl) (Nat.le_of_ble_eq_true rfl) (fun _ hq => hq)
    · skip
      refine lv_iload_n hx hb dX6_addStep_19 rfl (lv_at hl 3 rfl) ?_
      refine lv_bipush (v := 109) hx hb dX6_addStep_20 (by decide) ?_
      refine lv_icmp_eq (tgt := 35) hx hb dX6_addStep_22 (by decide) (fun _ => ?_) (fun q_ => absurd ((hkd.resolve_left c_10).resolve_left c_16) q_)
      refine lv_iload_n hx hb dX6_addStep_35 rfl (lv_at hl 4 rfl) ?_
      refine lv_iconst (v := (-1)) hx hb dX6_addStep_36 (by decide) ?_
      refine lv_icmp_eq (tgt := 59) hx hb dX6_addStep_37 (by decide) (fun q_ => absurd q_ hx1) (fun _ => ?_)
      refine lv_aload hx hb dX6_addStep_40 (lv_at hl 0 rfl) ?_
      refine lv_iload_n hx hb dX6_addStep_42 rfl (lv_at hl 4 rfl) ?_
      refine x_V1 hx hb hml hown hE hS hl.1 cyX4_isStage tw287 (c_X4_isStage_no l g h I n p x hpp hWp.2.2.1 hx0) ⟨Nat.le_of_ble_eq_true rfl, Nat.le_of_ble_eq_true rfl⟩ ⟨Nat.le_of_ble_eq_true rfl, Nat.le_of_ble_eq_true rfl⟩ (x_recv hK hH (id := [5, p]) (by first | trivial | (simp only [xD]; omega) | (simp [xD]; done) | (simp [xD]; omega)) (ci := 4) rfl (by decide) rfl) hH rfl rfl (Nat.le_of_ble_eq_true rfl) dX6_addStep_43 (fun H locs hH hS => ?_)
      refine lv_if_ne (tgt := 59) hx hb dX6_addStep_46 (by decide) (fun q_ => absurd (by decide) q_) (fun _ => ?_)
      exact x_thr (text := "the parent is no stage of the plan") hx hb hst hown hE hS hH (hl.1.trans hml.symm) thIA (List.mem_of_getElem? (i := 3) rfl) dX6_addStep_49 dX6_addStep_52 dX6_addStep_53 dX6_addStep_55 dX6_addStep_58 hout hlocks (Nat.le_of_ble_eq_true rfl) (Nat.le_of_ble_eq_true rfl) (Nat.le_of_ble_eq_true rfl) (Nat.le_of_ble_eq_true rfl) (Nat.le_of_ble_eq_true rfl) (Nat.le_of_ble_eq_true rfl) (fun _ hq => hq)

set_option maxHeartbeats 1000000 in
set_option maxRecDepth 100000 in
theorem t_X6_addStep_r (l : Launch) (hst : l.stackTraces = false) (g : xG) (h : xS) (I : xI) (n : Nat) (hW : xWs0 h I) (p : Nat) (hpp : p < sNp h) (kd : Int32) (hkd : kd = 115 ∨ kd = 116 ∨ kd = 109) (j : Nat) (hj : j < sSz h p) (hk : ¬ I [7, p, j] 0 = 115) : xTc l yX6_addStep (xws yX6_addStep cX6_addStep 5 (some FieldType.int)) 6 90 g [.ref (ga g [0]), .int (nI p), .int kd, .int (nI j)] (xR g (xD h) I (xFh h) n) eIA (xG_ g (xD h) I (xFh h) n) 1 6 := by
  refine xTc.of (by decide) (Nat.le_of_ble_eq_true rfl) ?_
  intro P_ e_ s m_ bl_ mt_ cd_ ls hx hb hr hown hlocks hml hout hE hK hts hH hS hl
  have hl : lv_has ls 5 [(0, .ref (ga g [0])), (1, .int (nI p)), (2, .int kd), (3, .int (nI j))] := hl
  have h3 := hW.1
  have hWp := hW.2.2 _ hpp
  have h8 := hWp.1
  refine lv_aload_n hx hb dX6_addStep_0 rfl (lv_at hl 0 rfl) ?_
  refine lv_iload_n hx hb dX6_addStep_1 rfl (lv_at hl 1 rfl) ?_
  refine x_V1 hx hb hml hown hE hS hl.1 cyX6_existingPlan tw247 (c_X6_existingPlan l g h I n p hpp h3 hW.2.1) ⟨Nat.le_of_ble_eq_true rfl, Nat.le_of_ble_eq_true rfl⟩ ⟨Nat.le_of_ble_eq_true rfl, Nat.le_of_ble_eq_true rfl⟩ (x_recv hK hH (id := [0]) (by first | trivial | (simp only [xD]; omega) | (simp [xD]; done) | (simp [xD]; omega)) (ci := 6) rfl (by decide) rfl) hH rfl rfl (Nat.le_of_ble_eq_true rfl) dX6_addStep_2 (fun H locs hH hS => ?_)
  refine lv_astore (lv' := [(4, .ref (ga g [5, p])), (0, .ref (ga g [0])), (1, .int (nI p)), (2, .int kd), (3, .int (nI j))]) hx hb dX6_addStep_5 hl (by decide) rfl (fun ls hl => ?_)
  refine lv_iload_n hx hb dX6_addStep_7 rfl (lv_at hl 3 rfl) ?_
  refine lv_bipush (v := 115) hx hb dX6_addStep_8 (by decide) ?_
  refine lv_icmp_eq (tgt := 35) hx hb dX6_addStep_10 (by decide) (fun c_10 => ?_) (fun c_10 => ?_)
  · skip
    refine lv_iload_n hx hb dX6_addStep_35 rfl (lv_at hl 4 rfl) ?_
    refine lv_iconst (v := (-1)) hx hb dX6_addStep_36 (by decide) ?_
    refine lv_icmp_eq (tgt := 59) hx hb dX6_addStep_37 (by decide) (fun q_ => absurd q_ (nI_m1 (by omega))) (fun _ => ?_)
    refine lv_aload hx hb dX6_addStep_40 (lv_at hl 0 rfl) ?_
    refine lv_iload_n hx hb dX6_addStep_42 rfl (lv_at hl 4 rfl) ?_
    refine x_V1 hx hb hml hown hE hS hl.1 cyX4_isStage tw287 (c_X4_isStage l g h I n p j hpp hj h8 hWp.2.2.1) ⟨Nat.le_of_ble_eq_true rfl, Nat.le_of_ble_eq_true rfl⟩ ⟨Nat.le_of_ble_eq_true rfl, Nat.le_of_ble_eq_true rfl⟩ (x_recv hK hH (id := [5, p]) (by first | trivial | (simp only [xD]; omega) | (simp [xD]; done) | (simp [xD]; omega)) (ci := 4) rfl (by decide) rfl) hH rfl rfl (Nat.le_of_ble_eq_true rfl) dX6_addStep_43 (fun H locs hH hS => ?_)
    refine lv_if_ne (tgt := 59) hx hb dX6_addStep_46 (by decide) (fun q_ => absurd q_ (fun z_ => z_ (by rw [decide_eq_false hk]; rfl))) (fun _ => ?_)
    exact x_thr (text := "the parent is no stage of the plan") hx hb hst hown hE hS hH (hl.1.trans hml.symm) thIA (List.mem_of_getElem? (i := 3) rfl) dX6_addStep_49 dX6_addStep_52 dX6_addStep_53 dX6_addStep_55 dX6_addStep_58 hout hlocks (Nat.le_of_ble_eq_true rfl) (Nat.le_of_ble_eq_true rfl) (Nat.le_of_ble_eq_true rfl) (Nat.le_of_ble_eq_true rfl) (Nat.le_of_ble_eq_true rfl) (Nat.le_of_ble_eq_true rfl) (fun _ hq => hq)
  · skip
    refine lv_iload_n hx hb dX6_addStep_13 rfl (lv_at hl 3 rfl) ?_
    refine lv_bipush (v := 116) hx hb dX6_addStep_14 (by decide) ?_
    refine lv_icmp_eq (tgt := 35) hx hb dX6_addStep_16 (by decide) (fun c_16 => ?_) (fun c_16 => ?_)
    · skip
      refine lv_iload_n hx hb dX6_addStep_35 rfl (lv_at hl 4 rfl) ?_
      refine lv_iconst (v := (-1)) hx hb dX6_addStep_36 (by decide) ?_
      refine lv_icmp_eq (tgt := 59) hx hb dX6_addStep_37 (by decide) (fun q_ => absurd q_ (nI_m1 (by omega))) (fun _ => ?_)
      refine lv_aload hx hb dX6_addStep_40 (lv_at hl 0 rfl) ?_
      refine lv_iload_n hx hb dX6_addStep_42 rfl (lv_at hl 4 rfl) ?_
      refine x_V1 hx hb hml hown hE hS hl.1 cyX4_isStage tw287 (c_X4_isStage l g h I n p j hpp hj h8 hWp.2.2.1) ⟨Nat.le_of_ble_eq_true rfl, Nat.le_of_ble_eq_true rfl⟩ ⟨Nat.le_of_ble_eq_true rfl, Nat.le_of_ble_eq_true rfl⟩ (x_recv hK hH (id := [5, p]) (by first | trivial | (simp only [xD]; omega) | (simp [xD]; done) | (simp [xD]; omega)) (ci := 4) rfl (by decide) rfl) hH rfl rfl (Nat.le_of_ble_eq_true rfl) dX6_addStep_43 (fun H locs hH hS => ?_)
      refine lv_if_ne (tgt := 59) hx hb dX6_addStep_46 (by decide) (fun q_ => absurd q_ (fun z_ => z_ (by rw [decide_eq_false hk]; rfl))) (fun _ => ?_)
      exact x_thr (text := "the parent is no stage of the plan") hx hb hst hown hE hS hH (hl.1.trans hml.symm) thIA (List.mem_of_getElem? (i := 3) rfl) dX6_addStep_49 dX6_addStep_52 dX6_addStep_53 dX6_addStep_55 dX6_addStep_58 hout hlocks (Nat.le_of_ble_eq_true rfl) (Nat.le_of_ble_eq_true rfl) (Nat.le_of_ble_eq_true rfl) (Nat.le_of_ble_eq_true rfl) (Nat.le_of_ble_eq_true rfl) (Nat.le_of_ble_eq_true rfl) (fun _ hq => hq)
    · skip
      refine lv_iload_n hx hb dX6_addStep_19 rfl (lv_at hl 3 rfl) ?_
      refine lv_bipush (v := 109) hx hb dX6_addStep_20 (by decide) ?_
      refine lv_icmp_eq (tgt := 35) hx hb dX6_addStep_22 (by decide) (fun _ => ?_) (fun q_ => absurd ((hkd.resolve_left c_10).resolve_left c_16) q_)
      refine lv_iload_n hx hb dX6_addStep_35 rfl (lv_at hl 4 rfl) ?_
      refine lv_iconst (v := (-1)) hx hb dX6_addStep_36 (by decide) ?_
      refine lv_icmp_eq (tgt := 59) hx hb dX6_addStep_37 (by decide) (fun q_ => absurd q_ (nI_m1 (by omega))) (fun _ => ?_)
      refine lv_aload hx hb dX6_addStep_40 (lv_at hl 0 rfl) ?_
      refine lv_iload_n hx hb dX6_addStep_42 rfl (lv_at hl 4 rfl) ?_
      refine x_V1 hx hb hml hown hE hS hl.1 cyX4_isStage tw287 (c_X4_isStage l g h I n p j hpp hj h8 hWp.2.2.1) ⟨Nat.le_of_ble_eq_true rfl, Nat.le_of_ble_eq_true rfl⟩ ⟨Nat.le_of_ble_eq_true rfl, Nat.le_of_ble_eq_true rfl⟩ (x_recv hK hH (id := [5, p]) (by first | trivial | (simp only [xD]; omega) | (simp [xD]; done) | (simp [xD]; omega)) (ci := 4) rfl (by decide) rfl) hH rfl rfl (Nat.le_of_ble_eq_true rfl) dX6_addStep_43 (fun H locs hH hS => ?_)
      refine lv_if_ne (tgt := 59) hx hb dX6_addStep_46 (by decide) (fun q_ => absurd q_ (fun z_ => z_ (by rw [decide_eq_false hk]; rfl))) (fun _ => ?_)
      exact x_thr (text := "the parent is no stage of the plan") hx hb hst hown hE hS hH (hl.1.trans hml.symm) thIA (List.mem_of_getElem? (i := 3) rfl) dX6_addStep_49 dX6_addStep_52 dX6_addStep_53 dX6_addStep_55 dX6_addStep_58 hout hlocks (Nat.le_of_ble_eq_true rfl) (Nat.le_of_ble_eq_true rfl) (Nat.le_of_ble_eq_true rfl) (Nat.le_of_ble_eq_true rfl) (Nat.le_of_ble_eq_true rfl) (Nat.le_of_ble_eq_true rfl) (fun _ hq => hq)

set_option maxHeartbeats 1000000 in
set_option maxRecDepth 100000 in
theorem t_X6_addStep_un (l : Launch) (hst : l.stackTraces = false) (g : xG) (h : xS) (I : xI) (n : Nat) (hW : xWs0 h I) (p : Nat) (hpp : p < sNp h) (kd : Int32) (hkd : kd = 115 ∨ kd = 116 ∨ kd = 109) (hu : ¬ I [5, p] 3 = 0) : xTc l yX6_addStep (xws yX6_addStep cX6_addStep 5 (some FieldType.int)) 7 110 g [.ref (ga g [0]), .int (nI p), .int kd, .int (-1)] (xR g (xD h) I (xFh h) n) eIS (xG_ g (xD h) I (xFh h) n) 1 6 := by
  refine xTc.of (by decide) (Nat.le_of_ble_eq_true rfl) ?_
  intro P_ e_ s m_ bl_ mt_ cd_ ls hx hb hr hown hlocks hml hout hE hK hts hH hS hl
  have hl : lv_has ls 5 [(0, .ref (ga g [0])), (1, .int (nI p)), (2, .int kd), (3, .int (-1))] := hl
  have h3 := hW.1
  have hWp := hW.2.2 _ hpp
  have h8 := hWp.1
  refine lv_aload_n hx hb dX6_addStep_0 rfl (lv_at hl 0 rfl) ?_
  refine lv_iload_n hx hb dX6_addStep_1 rfl (lv_at hl 1 rfl) ?_
  refine x_V1 hx hb hml hown hE hS hl.1 cyX6_existingPlan tw247 (c_X6_existingPlan l g h I n p hpp h3 hW.2.1) ⟨Nat.le_of_ble_eq_true rfl, Nat.le_of_ble_eq_true rfl⟩ ⟨Nat.le_of_ble_eq_true rfl, Nat.le_of_ble_eq_true rfl⟩ (x_recv hK hH (id := [0]) (by first | trivial | (simp only [xD]; omega) | (simp [xD]; done) | (simp [xD]; omega)) (ci := 6) rfl (by decide) rfl) hH rfl rfl (Nat.le_of_ble_eq_true rfl) dX6_addStep_2 (fun H locs hH hS => ?_)
  refine lv_astore (lv' := [(4, .ref (ga g [5, p])), (0, .ref (ga g [0])), (1, .int (nI p)), (2, .int kd), (3, .int (-1))]) hx hb dX6_addStep_5 hl (by decide) rfl (fun ls hl => ?_)
  refine lv_iload_n hx hb dX6_addStep_7 rfl (lv_at hl 3 rfl) ?_
  refine lv_bipush (v := 115) hx hb dX6_addStep_8 (by decide) ?_
  refine lv_icmp_eq (tgt := 35) hx hb dX6_addStep_10 (by decide) (fun c_10 => ?_) (fun c_10 => ?_)
  · skip
    refine lv_iload_n hx hb dX6_addStep_35 rfl (lv_at hl 4 rfl) ?_
    refine lv_iconst (v := (-1)) hx hb dX6_addStep_36 (by decide) ?_
    refine lv_icmp_eq (tgt := 59) hx hb dX6_addStep_37 (by decide) (fun _ => ?_) (fun q_ => absurd (by decide) q_)
    refine lv_aload hx hb dX6_addStep_59 (lv_at hl 0 rfl) ?_
    exact x_outT (x_ST hx hb hml hown hE hS hl.1 cyX6_refuseUsed tw296 (t_X6_refuseUsed l hst g h I n p hpp hu) ⟨Nat.le_of_ble_eq_true rfl, Nat.le_of_ble_eq_true rfl⟩ ⟨Nat.le_of_ble_eq_true rfl, Nat.le_of_ble_eq_true rfl⟩ hH rfl rfl (Nat.le_of_ble_eq_true rfl) dX6_addStep_61) hS hout hlocks (fun _ hq => hq) (Nat.le_of_ble_eq_true rfl) (Nat.le_of_ble_eq_true rfl)
  · skip
    refine lv_iload_n hx hb dX6_addStep_13 rfl (lv_at hl 3 rfl) ?_
    refine lv_bipush (v := 116) hx hb dX6_addStep_14 (by decide) ?_
    refine lv_icmp_eq (tgt := 35) hx hb dX6_addStep_16 (by decide) (fun c_16 => ?_) (fun c_16 => ?_)
    · skip
      refine lv_iload_n hx hb dX6_addStep_35 rfl (lv_at hl 4 rfl) ?_
      refine lv_iconst (v := (-1)) hx hb dX6_addStep_36 (by decide) ?_
      refine lv_icmp_eq (tgt := 59) hx hb dX6_addStep_37 (by decide) (fun _ => ?_) (fun q_ => absurd (by decide) q_)
      refine lv_aload hx hb dX6_addStep_59 (lv_at hl 0 rfl) ?_
      exact x_outT (x_ST hx hb hml hown hE hS hl.1 cyX6_refuseUsed tw296 (t_X6_refuseUsed l hst g h I n p hpp hu) ⟨Nat.le_of_ble_eq_true rfl, Nat.le_of_ble_eq_true rfl⟩ ⟨Nat.le_of_ble_eq_true rfl, Nat.le_of_ble_eq_true rfl⟩ hH rfl rfl (Nat.le_of_ble_eq_true rfl) dX6_addStep_61) hS hout hlocks (fun _ hq => hq) (Nat.le_of_ble_eq_true rfl) (Nat.le_of_ble_eq_true rfl)
    · skip
      refine lv_iload_n hx hb dX6_addStep_19 rfl (lv_at hl 3 rfl) ?_
      refine lv_bipush (v := 109) hx hb dX6_addStep_20 (by decide) ?_
      refine lv_icmp_eq (tgt := 35) hx hb dX6_addStep_22 (by decide) (fun _ => ?_) (fun q_ => absurd ((hkd.resolve_left c_10).resolve_left c_16) q_)
      refine lv_iload_n hx hb dX6_addStep_35 rfl (lv_at hl 4 rfl) ?_
      refine lv_iconst (v := (-1)) hx hb dX6_addStep_36 (by decide) ?_
      refine lv_icmp_eq (tgt := 59) hx hb dX6_addStep_37 (by decide) (fun _ => ?_) (fun q_ => absurd (by decide) q_)
      refine lv_aload hx hb dX6_addStep_59 (lv_at hl 0 rfl) ?_
      exact x_outT (x_ST hx hb hml hown hE hS hl.1 cyX6_refuseUsed tw296 (t_X6_refuseUsed l hst g h I n p hpp hu) ⟨Nat.le_of_ble_eq_true rfl, Nat.le_of_ble_eq_true rfl⟩ ⟨Nat.le_of_ble_eq_true rfl, Nat.le_of_ble_eq_true rfl⟩ hH rfl rfl (Nat.le_of_ble_eq_true rfl) dX6_addStep_61) hS hout hlocks (fun _ hq => hq) (Nat.le_of_ble_eq_true rfl) (Nat.le_of_ble_eq_true rfl)

set_option maxHeartbeats 1000000 in
set_option maxRecDepth 100000 in
theorem t_X6_addStep_fn (l : Launch) (hst : l.stackTraces = false) (g : xG) (h : xS) (I : xI) (n : Nat) (hW : xWs0 h I) (p : Nat) (hpp : p < sNp h) (kd : Int32) (hkd : kd = 115 ∨ kd = 116 ∨ kd = 109) (hu : I [5, p] 3 = 0) (hf : sSz h p = 8) : xTc l yX6_addStep (xws yX6_addStep cX6_addStep 5 (some FieldType.int)) 6 90 g [.ref (ga g [0]), .int (nI p), .int kd, .int (-1)] (xR g (xD h) I (xFh h) n) eIS (xG_ g (xD h) I (xFh h) n) 1 6 := by
  refine xTc.of (by decide) (Nat.le_of_ble_eq_true rfl) ?_
  intro P_ e_ s m_ bl_ mt_ cd_ ls hx hb hr hown hlocks hml hout hE hK hts hH hS hl
  have hl : lv_has ls 5 [(0, .ref (ga g [0])), (1, .int (nI p)), (2, .int kd), (3, .int (-1))] := hl
  have h3 := hW.1
  have hWp := hW.2.2 _ hpp
  have h8 := hWp.1
  refine lv_aload_n hx hb dX6_addStep_0 rfl (lv_at hl 0 rfl) ?_
  refine lv_iload_n hx hb dX6_addStep_1 rfl (lv_at hl 1 rfl) ?_
  refine x_V1 hx hb hml hown hE hS hl.1 cyX6_existingPlan tw247 (c_X6_existingPlan l g h I n p hpp h3 hW.2.1) ⟨Nat.le_of_ble_eq_true rfl, Nat.le_of_ble_eq_true rfl⟩ ⟨Nat.le_of_ble_eq_true rfl, Nat.le_of_ble_eq_true rfl⟩ (x_recv hK hH (id := [0]) (by first | trivial | (simp only [xD]; omega) | (simp [xD]; done) | (simp [xD]; omega)) (ci := 6) rfl (by decide) rfl) hH rfl rfl (Nat.le_of_ble_eq_true rfl) dX6_addStep_2 (fun H locs hH hS => ?_)
  refine lv_astore (lv' := [(4, .ref (ga g [5, p])), (0, .ref (ga g [0])), (1, .int (nI p)), (2, .int kd), (3, .int (-1))]) hx hb dX6_addStep_5 hl (by decide) rfl (fun ls hl => ?_)
  refine lv_iload_n hx hb dX6_addStep_7 rfl (lv_at hl 3 rfl) ?_
  refine lv_bipush (v := 115) hx hb dX6_addStep_8 (by decide) ?_
  refine lv_icmp_eq (tgt := 35) hx hb dX6_addStep_10 (by decide) (fun c_10 => ?_) (fun c_10 => ?_)
  · skip
    refine lv_iload_n hx hb dX6_addStep_35 rfl (lv_at hl 4 rfl) ?_
    refine lv_iconst (v := (-1)) hx hb dX6_addStep_36 (by decide) ?_
    refine lv_icmp_eq (tgt := 59) hx hb dX6_addStep_37 (by decide) (fun _ => ?_) (fun q_ => absurd (by decide) q_)
    refine lv_aload hx hb dX6_addStep_59 (lv_at hl 0 rfl) ?_
    refine x_S0 hx hb hml hown hE hS hl.1 cyX6_refuseUsed tw296 (c_X6_refuseUsed l g h I n p hpp hu) ⟨Nat.le_of_ble_eq_true rfl, Nat.le_of_ble_eq_true rfl⟩ ⟨Nat.le_of_ble_eq_true rfl, Nat.le_of_ble_eq_true rfl⟩ hH rfl rfl (Nat.le_of_ble_eq_true rfl) dX6_addStep_61 (fun H locs hH hS => ?_)
    refine lv_aload hx hb dX6_addStep_64 (lv_at hl 0 rfl) ?_
    refine x_get (C := RX4) (T := TX4) (N := 4) (ci := 4) hx hb hts iu4 hown hK hH (id := [5, p]) (by first | trivial | (simp only [xD]; omega) | (simp [xD]; done) | (simp [xD]; omega)) rfl rfl (by decide) 2 (by decide) (hts _ tw73) (fun _ h9 => h9) rfl (v := .int (nI (sSz h p))) (congrArg Value.int hWp.2.2.1) dX6_addStep_66 ?_
    refine lv_bipush (v := 8) hx hb dX6_addStep_69 (by decide) ?_
    refine lv_icmp_lt (tgt := 84) hx hb dX6_addStep_71 (by decide) (fun q_ => absurd q_ (fun z_ => absurd ((nI_ltI (a := (sSz h p)) (b := 8) (by omega) (by omega)).mp z_) (by omega))) (fun _ => ?_)
    exact x_thr (text := "the plan has 8 steps") hx hb hst hown hE hS hH (hl.1.trans hml.symm) thIS (List.mem_of_getElem? (i := 5) rfl) dX6_addStep_74 dX6_addStep_77 dX6_addStep_78 dX6_addStep_80 dX6_addStep_83 hout hlocks (Nat.le_of_ble_eq_true rfl) (Nat.le_of_ble_eq_true rfl) (Nat.le_of_ble_eq_true rfl) (Nat.le_of_ble_eq_true rfl) (Nat.le_of_ble_eq_true rfl) (Nat.le_of_ble_eq_true rfl) (fun _ hq => hq)
  · skip
    refine lv_iload_n hx hb dX6_addStep_13 rfl (lv_at hl 3 rfl) ?_
    refine lv_bipush (v := 116) hx hb dX6_addStep_14 (by decide) ?_
    refine lv_icmp_eq (tgt := 35) hx hb dX6_addStep_16 (by decide) (fun c_16 => ?_) (fun c_16 => ?_)
    · skip
      refine lv_iload_n hx hb dX6_addStep_35 rfl (lv_at hl 4 rfl) ?_
      refine lv_iconst (v := (-1)) hx hb dX6_addStep_36 (by decide) ?_
      refine lv_icmp_eq (tgt := 59) hx hb dX6_addStep_37 (by decide) (fun _ => ?_) (fun q_ => absurd (by decide) q_)
      refine lv_aload hx hb dX6_addStep_59 (lv_at hl 0 rfl) ?_
      refine x_S0 hx hb hml hown hE hS hl.1 cyX6_refuseUsed tw296 (c_X6_refuseUsed l g h I n p hpp hu) ⟨Nat.le_of_ble_eq_true rfl, Nat.le_of_ble_eq_true rfl⟩ ⟨Nat.le_of_ble_eq_true rfl, Nat.le_of_ble_eq_true rfl⟩ hH rfl rfl (Nat.le_of_ble_eq_true rfl) dX6_addStep_61 (fun H locs hH hS => ?_)
      refine lv_aload hx hb dX6_addStep_64 (lv_at hl 0 rfl) ?_
      refine x_get (C := RX4) (T := TX4) (N := 4) (ci := 4) hx hb hts iu4 hown hK hH (id := [5, p]) (by first | trivial | (simp only [xD]; omega) | (simp [xD]; done) | (simp [xD]; omega)) rfl rfl (by decide) 2 (by decide) (hts _ tw73) (fun _ h9 => h9) rfl (v := .int (nI (sSz h p))) (congrArg Value.int hWp.2.2.1) dX6_addStep_66 ?_
      refine lv_bipush (v := 8) hx hb dX6_addStep_69 (by decide) ?_
      refine lv_icmp_lt (tgt := 84) hx hb dX6_addStep_71 (by decide) (fun q_ => absurd q_ (fun z_ => absurd ((nI_ltI (a := (sSz h p)) (b := 8) (by omega) (by omega)).mp z_) (by omega))) (fun _ => ?_)
      exact x_thr (text := "the plan has 8 steps") hx hb hst hown hE hS hH (hl.1.trans hml.symm) thIS (List.mem_of_getElem? (i := 5) rfl) dX6_addStep_74 dX6_addStep_77 dX6_addStep_78 dX6_addStep_80 dX6_addStep_83 hout hlocks (Nat.le_of_ble_eq_true rfl) (Nat.le_of_ble_eq_true rfl) (Nat.le_of_ble_eq_true rfl) (Nat.le_of_ble_eq_true rfl) (Nat.le_of_ble_eq_true rfl) (Nat.le_of_ble_eq_true rfl) (fun _ hq => hq)
    · skip
      refine lv_iload_n hx hb dX6_addStep_19 rfl (lv_at hl 3 rfl) ?_
      refine lv_bipush (v := 109) hx hb dX6_addStep_20 (by decide) ?_
      refine lv_icmp_eq (tgt := 35) hx hb dX6_addStep_22 (by decide) (fun _ => ?_) (fun q_ => absurd ((hkd.resolve_left c_10).resolve_left c_16) q_)
      refine lv_iload_n hx hb dX6_addStep_35 rfl (lv_at hl 4 rfl) ?_
      refine lv_iconst (v := (-1)) hx hb dX6_addStep_36 (by decide) ?_
      refine lv_icmp_eq (tgt := 59) hx hb dX6_addStep_37 (by decide) (fun _ => ?_) (fun q_ => absurd (by decide) q_)
      refine lv_aload hx hb dX6_addStep_59 (lv_at hl 0 rfl) ?_
      refine x_S0 hx hb hml hown hE hS hl.1 cyX6_refuseUsed tw296 (c_X6_refuseUsed l g h I n p hpp hu) ⟨Nat.le_of_ble_eq_true rfl, Nat.le_of_ble_eq_true rfl⟩ ⟨Nat.le_of_ble_eq_true rfl, Nat.le_of_ble_eq_true rfl⟩ hH rfl rfl (Nat.le_of_ble_eq_true rfl) dX6_addStep_61 (fun H locs hH hS => ?_)
      refine lv_aload hx hb dX6_addStep_64 (lv_at hl 0 rfl) ?_
      refine x_get (C := RX4) (T := TX4) (N := 4) (ci := 4) hx hb hts iu4 hown hK hH (id := [5, p]) (by first | trivial | (simp only [xD]; omega) | (simp [xD]; done) | (simp [xD]; omega)) rfl rfl (by decide) 2 (by decide) (hts _ tw73) (fun _ h9 => h9) rfl (v := .int (nI (sSz h p))) (congrArg Value.int hWp.2.2.1) dX6_addStep_66 ?_
      refine lv_bipush (v := 8) hx hb dX6_addStep_69 (by decide) ?_
      refine lv_icmp_lt (tgt := 84) hx hb dX6_addStep_71 (by decide) (fun q_ => absurd q_ (fun z_ => absurd ((nI_ltI (a := (sSz h p)) (b := 8) (by omega) (by omega)).mp z_) (by omega))) (fun _ => ?_)
      exact x_thr (text := "the plan has 8 steps") hx hb hst hown hE hS hH (hl.1.trans hml.symm) thIS (List.mem_of_getElem? (i := 5) rfl) dX6_addStep_74 dX6_addStep_77 dX6_addStep_78 dX6_addStep_80 dX6_addStep_83 hout hlocks (Nat.le_of_ble_eq_true rfl) (Nat.le_of_ble_eq_true rfl) (Nat.le_of_ble_eq_true rfl) (Nat.le_of_ble_eq_true rfl) (Nat.le_of_ble_eq_true rfl) (Nat.le_of_ble_eq_true rfl) (fun _ hq => hq)

set_option maxHeartbeats 1000000 in
set_option maxRecDepth 100000 in
theorem t_X6_addStep_ut (l : Launch) (hst : l.stackTraces = false) (g : xG) (h : xS) (I : xI) (n : Nat) (hW : xWs0 h I) (p : Nat) (hpp : p < sNp h) (kd : Int32) (hkd : kd = 115 ∨ kd = 116 ∨ kd = 109) (j : Nat) (hj : j < sSz h p) (hk : I [7, p, j] 0 = 115) (hu : ¬ I [5, p] 3 = 0) : xTc l yX6_addStep (xws yX6_addStep cX6_addStep 5 (some FieldType.int)) 7 110 g [.ref (ga g [0]), .int (nI p), .int kd, .int (nI j)] (xR g (xD h) I (xFh h) n) eIS (xG_ g (xD h) I (xFh h) n) 1 6 := by
  refine xTc.of (by decide) (Nat.le_of_ble_eq_true rfl) ?_
  intro P_ e_ s m_ bl_ mt_ cd_ ls hx hb hr hown hlocks hml hout hE hK hts hH hS hl
  have hl : lv_has ls 5 [(0, .ref (ga g [0])), (1, .int (nI p)), (2, .int kd), (3, .int (nI j))] := hl
  have h3 := hW.1
  have hWp := hW.2.2 _ hpp
  have h8 := hWp.1
  refine lv_aload_n hx hb dX6_addStep_0 rfl (lv_at hl 0 rfl) ?_
  refine lv_iload_n hx hb dX6_addStep_1 rfl (lv_at hl 1 rfl) ?_
  refine x_V1 hx hb hml hown hE hS hl.1 cyX6_existingPlan tw247 (c_X6_existingPlan l g h I n p hpp h3 hW.2.1) ⟨Nat.le_of_ble_eq_true rfl, Nat.le_of_ble_eq_true rfl⟩ ⟨Nat.le_of_ble_eq_true rfl, Nat.le_of_ble_eq_true rfl⟩ (x_recv hK hH (id := [0]) (by first | trivial | (simp only [xD]; omega) | (simp [xD]; done) | (simp [xD]; omega)) (ci := 6) rfl (by decide) rfl) hH rfl rfl (Nat.le_of_ble_eq_true rfl) dX6_addStep_2 (fun H locs hH hS => ?_)
  refine lv_astore (lv' := [(4, .ref (ga g [5, p])), (0, .ref (ga g [0])), (1, .int (nI p)), (2, .int kd), (3, .int (nI j))]) hx hb dX6_addStep_5 hl (by decide) rfl (fun ls hl => ?_)
  refine lv_iload_n hx hb dX6_addStep_7 rfl (lv_at hl 3 rfl) ?_
  refine lv_bipush (v := 115) hx hb dX6_addStep_8 (by decide) ?_
  refine lv_icmp_eq (tgt := 35) hx hb dX6_addStep_10 (by decide) (fun c_10 => ?_) (fun c_10 => ?_)
  · skip
    refine lv_iload_n hx hb dX6_addStep_35 rfl (lv_at hl 4 rfl) ?_
    refine lv_iconst (v := (-1)) hx hb dX6_addStep_36 (by decide) ?_
    refine lv_icmp_eq (tgt := 59) hx hb dX6_addStep_37 (by decide) (fun q_ => absurd q_ (nI_m1 (by omega))) (fun _ => ?_)
    refine lv_aload hx hb dX6_addStep_40 (lv_at hl 0 rfl) ?_
    refine lv_iload_n hx hb dX6_addStep_42 rfl (lv_at hl 4 rfl) ?_
    refine x_V1 hx hb hml hown hE hS hl.1 cyX4_isStage tw287 (c_X4_isStage l g h I n p j hpp hj h8 hWp.2.2.1) ⟨Nat.le_of_ble_eq_true rfl, Nat.le_of_ble_eq_true rfl⟩ ⟨Nat.le_of_ble_eq_true rfl, Nat.le_of_ble_eq_true rfl⟩ (x_recv hK hH (id := [5, p]) (by first | trivial | (simp only [xD]; omega) | (simp [xD]; done) | (simp [xD]; omega)) (ci := 4) rfl (by decide) rfl) hH rfl rfl (Nat.le_of_ble_eq_true rfl) dX6_addStep_43 (fun H locs hH hS => ?_)
    refine lv_if_ne (tgt := 59) hx hb dX6_addStep_46 (by decide) (fun _ => ?_) (fun q_ => absurd q_ (by rw [decide_eq_true hk]; decide))
    refine lv_aload hx hb dX6_addStep_59 (lv_at hl 0 rfl) ?_
    exact x_outT (x_ST hx hb hml hown hE hS hl.1 cyX6_refuseUsed tw296 (t_X6_refuseUsed l hst g h I n p hpp hu) ⟨Nat.le_of_ble_eq_true rfl, Nat.le_of_ble_eq_true rfl⟩ ⟨Nat.le_of_ble_eq_true rfl, Nat.le_of_ble_eq_true rfl⟩ hH rfl rfl (Nat.le_of_ble_eq_true rfl) dX6_addStep_61) hS hout hlocks (fun _ hq => hq) (Nat.le_of_ble_eq_true rfl) (Nat.le_of_ble_eq_true rfl)
  · skip
    refine lv_iload_n hx hb dX6_addStep_13 rfl (lv_at hl 3 rfl) ?_
    refine lv_bipush (v := 116) hx hb dX6_addStep_14 (by decide) ?_
    refine lv_icmp_eq (tgt := 35) hx hb dX6_addStep_16 (by decide) (fun c_16 => ?_) (fun c_16 => ?_)
    · skip
      refine lv_iload_n hx hb dX6_addStep_35 rfl (lv_at hl 4 rfl) ?_
      refine lv_iconst (v := (-1)) hx hb dX6_addStep_36 (by decide) ?_
      refine lv_icmp_eq (tgt := 59) hx hb dX6_addStep_37 (by decide) (fun q_ => absurd q_ (nI_m1 (by omega))) (fun _ => ?_)
      refine lv_aload hx hb dX6_addStep_40 (lv_at hl 0 rfl) ?_
      refine lv_iload_n hx hb dX6_addStep_42 rfl (lv_at hl 4 rfl) ?_
      refine x_V1 hx hb hml hown hE hS hl.1 cyX4_isStage tw287 (c_X4_isStage l g h I n p j hpp hj h8 hWp.2.2.1) ⟨Nat.le_of_ble_eq_true rfl, Nat.le_of_ble_eq_true rfl⟩ ⟨Nat.le_of_ble_eq_true rfl, Nat.le_of_ble_eq_true rfl⟩ (x_recv hK hH (id := [5, p]) (by first | trivial | (simp only [xD]; omega) | (simp [xD]; done) | (simp [xD]; omega)) (ci := 4) rfl (by decide) rfl) hH rfl rfl (Nat.le_of_ble_eq_true rfl) dX6_addStep_43 (fun H locs hH hS => ?_)
      refine lv_if_ne (tgt := 59) hx hb dX6_addStep_46 (by decide) (fun _ => ?_) (fun q_ => absurd q_ (by rw [decide_eq_true hk]; decide))
      refine lv_aload hx hb dX6_addStep_59 (lv_at hl 0 rfl) ?_
      exact x_outT (x_ST hx hb hml hown hE hS hl.1 cyX6_refuseUsed tw296 (t_X6_refuseUsed l hst g h I n p hpp hu) ⟨Nat.le_of_ble_eq_true rfl, Nat.le_of_ble_eq_true rfl⟩ ⟨Nat.le_of_ble_eq_true rfl, Nat.le_of_ble_eq_true rfl⟩ hH rfl rfl (Nat.le_of_ble_eq_true rfl) dX6_addStep_61) hS hout hlocks (fun _ hq => hq) (Nat.le_of_ble_eq_true rfl) (Nat.le_of_ble_eq_true rfl)
    · skip
      refine lv_iload_n hx hb dX6_addStep_19 rfl (lv_at hl 3 rfl) ?_
      refine lv_bipush (v := 109) hx hb dX6_addStep_20 (by decide) ?_
      refine lv_icmp_eq (tgt := 35) hx hb dX6_addStep_22 (by decide) (fun _ => ?_) (fun q_ => absurd ((hkd.resolve_left c_10).resolve_left c_16) q_)
      refine lv_iload_n hx hb dX6_addStep_35 rfl (lv_at hl 4 rfl) ?_
      refine lv_iconst (v := (-1)) hx hb dX6_addStep_36 (by decide) ?_
      refine lv_icmp_eq (tgt := 59) hx hb dX6_addStep_37 (by decide) (fun q_ => absurd q_ (nI_m1 (by omega))) (fun _ => ?_)
      refine lv_aload hx hb dX6_addStep_40 (lv_at hl 0 rfl) ?_
      refine lv_iload_n hx hb dX6_addStep_42 rfl (lv_at hl 4 rfl) ?_
      refine x_V1 hx hb hml hown hE hS hl.1 cyX4_isStage tw287 (c_X4_isStage l g h I n p j hpp hj h8 hWp.2.2.1) ⟨Nat.le_of_ble_eq_true rfl, Nat.le_of_ble_eq_true rfl⟩ ⟨Nat.le_of_ble_eq_true rfl, Nat.le_of_ble_eq_true rfl⟩ (x_recv hK hH (id := [5, p]) (by first | trivial | (simp only [xD]; omega) | (simp [xD]; done) | (simp [xD]; omega)) (ci := 4) rfl (by decide) rfl) hH rfl rfl (Nat.le_of_ble_eq_true rfl) dX6_addStep_43 (fun H locs hH hS => ?_)
      refine lv_if_ne (tgt := 59) hx hb dX6_addStep_46 (by decide) (fun _ => ?_) (fun q_ => absurd q_ (by rw [decide_eq_true hk]; decide))
      refine lv_aload hx hb dX6_addStep_59 (lv_at hl 0 rfl) ?_
      exact x_outT (x_ST hx hb hml hown hE hS hl.1 cyX6_refuseUsed tw296 (t_X6_refuseUsed l hst g h I n p hpp hu) ⟨Nat.le_of_ble_eq_true rfl, Nat.le_of_ble_eq_true rfl⟩ ⟨Nat.le_of_ble_eq_true rfl, Nat.le_of_ble_eq_true rfl⟩ hH rfl rfl (Nat.le_of_ble_eq_true rfl) dX6_addStep_61) hS hout hlocks (fun _ hq => hq) (Nat.le_of_ble_eq_true rfl) (Nat.le_of_ble_eq_true rfl)

set_option maxHeartbeats 1000000 in
set_option maxRecDepth 100000 in
theorem t_X6_addStep_ft (l : Launch) (hst : l.stackTraces = false) (g : xG) (h : xS) (I : xI) (n : Nat) (hW : xWs0 h I) (p : Nat) (hpp : p < sNp h) (kd : Int32) (hkd : kd = 115 ∨ kd = 116 ∨ kd = 109) (j : Nat) (hj : j < sSz h p) (hk : I [7, p, j] 0 = 115) (hu : I [5, p] 3 = 0) (hf : sSz h p = 8) : xTc l yX6_addStep (xws yX6_addStep cX6_addStep 5 (some FieldType.int)) 6 90 g [.ref (ga g [0]), .int (nI p), .int kd, .int (nI j)] (xR g (xD h) I (xFh h) n) eIS (xG_ g (xD h) I (xFh h) n) 1 6 := by
  refine xTc.of (by decide) (Nat.le_of_ble_eq_true rfl) ?_
  intro P_ e_ s m_ bl_ mt_ cd_ ls hx hb hr hown hlocks hml hout hE hK hts hH hS hl
  have hl : lv_has ls 5 [(0, .ref (ga g [0])), (1, .int (nI p)), (2, .int kd), (3, .int (nI j))] := hl
  have h3 := hW.1
  have hWp := hW.2.2 _ hpp
  have h8 := hWp.1
  refine lv_aload_n hx hb dX6_addStep_0 rfl (lv_at hl 0 rfl) ?_
  refine lv_iload_n hx hb dX6_addStep_1 rfl (lv_at hl 1 rfl) ?_
  refine x_V1 hx hb hml hown hE hS hl.1 cyX6_existingPlan tw247 (c_X6_existingPlan l g h I n p hpp h3 hW.2.1) ⟨Nat.le_of_ble_eq_true rfl, Nat.le_of_ble_eq_true rfl⟩ ⟨Nat.le_of_ble_eq_true rfl, Nat.le_of_ble_eq_true rfl⟩ (x_recv hK hH (id := [0]) (by first | trivial | (simp only [xD]; omega) | (simp [xD]; done) | (simp [xD]; omega)) (ci := 6) rfl (by decide) rfl) hH rfl rfl (Nat.le_of_ble_eq_true rfl) dX6_addStep_2 (fun H locs hH hS => ?_)
  refine lv_astore (lv' := [(4, .ref (ga g [5, p])), (0, .ref (ga g [0])), (1, .int (nI p)), (2, .int kd), (3, .int (nI j))]) hx hb dX6_addStep_5 hl (by decide) rfl (fun ls hl => ?_)
  refine lv_iload_n hx hb dX6_addStep_7 rfl (lv_at hl 3 rfl) ?_
  refine lv_bipush (v := 115) hx hb dX6_addStep_8 (by decide) ?_
  refine lv_icmp_eq (tgt := 35) hx hb dX6_addStep_10 (by decide) (fun c_10 => ?_) (fun c_10 => ?_)
  · skip
    refine lv_iload_n hx hb dX6_addStep_35 rfl (lv_at hl 4 rfl) ?_
    refine lv_iconst (v := (-1)) hx hb dX6_addStep_36 (by decide) ?_
    refine lv_icmp_eq (tgt := 59) hx hb dX6_addStep_37 (by decide) (fun q_ => absurd q_ (nI_m1 (by omega))) (fun _ => ?_)
    refine lv_aload hx hb dX6_addStep_40 (lv_at hl 0 rfl) ?_
    refine lv_iload_n hx hb dX6_addStep_42 rfl (lv_at hl 4 rfl) ?_
    refine x_V1 hx hb hml hown hE hS hl.1 cyX4_isStage tw287 (c_X4_isStage l g h I n p j hpp hj h8 hWp.2.2.1) ⟨Nat.le_of_ble_eq_true rfl, Nat.le_of_ble_eq_true rfl⟩ ⟨Nat.le_of_ble_eq_true rfl, Nat.le_of_ble_eq_true rfl⟩ (x_recv hK hH (id := [5, p]) (by first | trivial | (simp only [xD]; omega) | (simp [xD]; done) | (simp [xD]; omega)) (ci := 4) rfl (by decide) rfl) hH rfl rfl (Nat.le_of_ble_eq_true rfl) dX6_addStep_43 (fun H locs hH hS => ?_)
    refine lv_if_ne (tgt := 59) hx hb dX6_addStep_46 (by decide) (fun _ => ?_) (fun q_ => absurd q_ (by rw [decide_eq_true hk]; decide))
    refine lv_aload hx hb dX6_addStep_59 (lv_at hl 0 rfl) ?_
    refine x_S0 hx hb hml hown hE hS hl.1 cyX6_refuseUsed tw296 (c_X6_refuseUsed l g h I n p hpp hu) ⟨Nat.le_of_ble_eq_true rfl, Nat.le_of_ble_eq_true rfl⟩ ⟨Nat.le_of_ble_eq_true rfl, Nat.le_of_ble_eq_true rfl⟩ hH rfl rfl (Nat.le_of_ble_eq_true rfl) dX6_addStep_61 (fun H locs hH hS => ?_)
    refine lv_aload hx hb dX6_addStep_64 (lv_at hl 0 rfl) ?_
    refine x_get (C := RX4) (T := TX4) (N := 4) (ci := 4) hx hb hts iu4 hown hK hH (id := [5, p]) (by first | trivial | (simp only [xD]; omega) | (simp [xD]; done) | (simp [xD]; omega)) rfl rfl (by decide) 2 (by decide) (hts _ tw73) (fun _ h9 => h9) rfl (v := .int (nI (sSz h p))) (congrArg Value.int hWp.2.2.1) dX6_addStep_66 ?_
    refine lv_bipush (v := 8) hx hb dX6_addStep_69 (by decide) ?_
    refine lv_icmp_lt (tgt := 84) hx hb dX6_addStep_71 (by decide) (fun q_ => absurd q_ (fun z_ => absurd ((nI_ltI (a := (sSz h p)) (b := 8) (by omega) (by omega)).mp z_) (by omega))) (fun _ => ?_)
    exact x_thr (text := "the plan has 8 steps") hx hb hst hown hE hS hH (hl.1.trans hml.symm) thIS (List.mem_of_getElem? (i := 5) rfl) dX6_addStep_74 dX6_addStep_77 dX6_addStep_78 dX6_addStep_80 dX6_addStep_83 hout hlocks (Nat.le_of_ble_eq_true rfl) (Nat.le_of_ble_eq_true rfl) (Nat.le_of_ble_eq_true rfl) (Nat.le_of_ble_eq_true rfl) (Nat.le_of_ble_eq_true rfl) (Nat.le_of_ble_eq_true rfl) (fun _ hq => hq)
  · skip
    refine lv_iload_n hx hb dX6_addStep_13 rfl (lv_at hl 3 rfl) ?_
    refine lv_bipush (v := 116) hx hb dX6_addStep_14 (by decide) ?_
    refine lv_icmp_eq (tgt := 35) hx hb dX6_addStep_16 (by decide) (fun c_16 => ?_) (fun c_16 => ?_)
    · skip
      refine lv_iload_n hx hb dX6_addStep_35 rfl (lv_at hl 4 rfl) ?_
      refine lv_iconst (v := (-1)) hx hb dX6_addStep_36 (by decide) ?_
      refine lv_icmp_eq (tgt := 59) hx hb dX6_addStep_37 (by decide) (fun q_ => absurd q_ (nI_m1 (by omega))) (fun _ => ?_)
      refine lv_aload hx hb dX6_addStep_40 (lv_at hl 0 rfl) ?_
      refine lv_iload_n hx hb dX6_addStep_42 rfl (lv_at hl 4 rfl) ?_
      refine x_V1 hx hb hml hown hE hS hl.1 cyX4_isStage tw287 (c_X4_isStage l g h I n p j hpp hj h8 hWp.2.2.1) ⟨Nat.le_of_ble_eq_true rfl, Nat.le_of_ble_eq_true rfl⟩ ⟨Nat.le_of_ble_eq_true rfl, Nat.le_of_ble_eq_true rfl⟩ (x_recv hK hH (id := [5, p]) (by first | trivial | (simp only [xD]; omega) | (simp [xD]; done) | (simp [xD]; omega)) (ci := 4) rfl (by decide) rfl) hH rfl rfl (Nat.le_of_ble_eq_true rfl) dX6_addStep_43 (fun H locs hH hS => ?_)
      refine lv_if_ne (tgt := 59) hx hb dX6_addStep_46 (by decide) (fun _ => ?_) (fun q_ => absurd q_ (by rw [decide_eq_true hk]; decide))
      refine lv_aload hx hb dX6_addStep_59 (lv_at hl 0 rfl) ?_
      refine x_S0 hx hb hml hown hE hS hl.1 cyX6_refuseUsed tw296 (c_X6_refuseUsed l g h I n p hpp hu) ⟨Nat.le_of_ble_eq_true rfl, Nat.le_of_ble_eq_true rfl⟩ ⟨Nat.le_of_ble_eq_true rfl, Nat.le_of_ble_eq_true rfl⟩ hH rfl rfl (Nat.le_of_ble_eq_true rfl) dX6_addStep_61 (fun H locs hH hS => ?_)
      refine lv_aload hx hb dX6_addStep_64 (lv_at hl 0 rfl) ?_
      refine x_get (C := RX4) (T := TX4) (N := 4) (ci := 4) hx hb hts iu4 hown hK hH (id := [5, p]) (by first | trivial | (simp only [xD]; omega) | (simp [xD]; done) | (simp [xD]; omega)) rfl rfl (by decide) 2 (by decide) (hts _ tw73) (fun _ h9 => h9) rfl (v := .int (nI (sSz h p))) (congrArg Value.int hWp.2.2.1) dX6_addStep_66 ?_
      refine lv_bipush (v := 8) hx hb dX6_addStep_69 (by decide) ?_
      refine lv_icmp_lt (tgt := 84) hx hb dX6_addStep_71 (by decide) (fun q_ => absurd q_ (fun z_ => absurd ((nI_ltI (a := (sSz h p)) (b := 8) (by omega) (by omega)).mp z_) (by omega))) (fun _ => ?_)
      exact x_thr (text := "the plan has 8 steps") hx hb hst hown hE hS hH (hl.1.trans hml.symm) thIS (List.mem_of_getElem? (i := 5) rfl) dX6_addStep_74 dX6_addStep_77 dX6_addStep_78 dX6_addStep_80 dX6_addStep_83 hout hlocks (Nat.le_of_ble_eq_true rfl) (Nat.le_of_ble_eq_true rfl) (Nat.le_of_ble_eq_true rfl) (Nat.le_of_ble_eq_true rfl) (Nat.le_of_ble_eq_true rfl) (Nat.le_of_ble_eq_true rfl) (fun _ hq => hq)
    · skip
      refine lv_iload_n hx hb dX6_addStep_19 rfl (lv_at hl 3 rfl) ?_
      refine lv_bipush (v := 109) hx hb dX6_addStep_20 (by decide) ?_
      refine lv_icmp_eq (tgt := 35) hx hb dX6_addStep_22 (by decide) (fun _ => ?_) (fun q_ => absurd ((hkd.resolve_left c_10).resolve_left c_16) q_)
      refine lv_iload_n hx hb dX6_addStep_35 rfl (lv_at hl 4 rfl) ?_
      refine lv_iconst (v := (-1)) hx hb dX6_addStep_36 (by decide) ?_
      refine lv_icmp_eq (tgt := 59) hx hb dX6_addStep_37 (by decide) (fun q_ => absurd q_ (nI_m1 (by omega))) (fun _ => ?_)
      refine lv_aload hx hb dX6_addStep_40 (lv_at hl 0 rfl) ?_
      refine lv_iload_n hx hb dX6_addStep_42 rfl (lv_at hl 4 rfl) ?_
      refine x_V1 hx hb hml hown hE hS hl.1 cyX4_isStage tw287 (c_X4_isStage l g h I n p j hpp hj h8 hWp.2.2.1) ⟨Nat.le_of_ble_eq_true rfl, Nat.le_of_ble_eq_true rfl⟩ ⟨Nat.le_of_ble_eq_true rfl, Nat.le_of_ble_eq_true rfl⟩ (x_recv hK hH (id := [5, p]) (by first | trivial | (simp only [xD]; omega) | (simp [xD]; done) | (simp [xD]; omega)) (ci := 4) rfl (by decide) rfl) hH rfl rfl (Nat.le_of_ble_eq_true rfl) dX6_addStep_43 (fun H locs hH hS => ?_)
      refine lv_if_ne (tgt := 59) hx hb dX6_addStep_46 (by decide) (fun _ => ?_) (fun q_ => absurd q_ (by rw [decide_eq_true hk]; decide))
      refine lv_aload hx hb dX6_addStep_59 (lv_at hl 0 rfl) ?_
      refine x_S0 hx hb hml hown hE hS hl.1 cyX6_refuseUsed tw296 (c_X6_refuseUsed l g h I n p hpp hu) ⟨Nat.le_of_ble_eq_true rfl, Nat.le_of_ble_eq_true rfl⟩ ⟨Nat.le_of_ble_eq_true rfl, Nat.le_of_ble_eq_true rfl⟩ hH rfl rfl (Nat.le_of_ble_eq_true rfl) dX6_addStep_61 (fun H locs hH hS => ?_)
      refine lv_aload hx hb dX6_addStep_64 (lv_at hl 0 rfl) ?_
      refine x_get (C := RX4) (T := TX4) (N := 4) (ci := 4) hx hb hts iu4 hown hK hH (id := [5, p]) (by first | trivial | (simp only [xD]; omega) | (simp [xD]; done) | (simp [xD]; omega)) rfl rfl (by decide) 2 (by decide) (hts _ tw73) (fun _ h9 => h9) rfl (v := .int (nI (sSz h p))) (congrArg Value.int hWp.2.2.1) dX6_addStep_66 ?_
      refine lv_bipush (v := 8) hx hb dX6_addStep_69 (by decide) ?_
      refine lv_icmp_lt (tgt := 84) hx hb dX6_addStep_71 (by decide) (fun q_ => absurd q_ (fun z_ => absurd ((nI_ltI (a := (sSz h p)) (b := 8) (by omega) (by omega)).mp z_) (by omega))) (fun _ => ?_)
      exact x_thr (text := "the plan has 8 steps") hx hb hst hown hE hS hH (hl.1.trans hml.symm) thIS (List.mem_of_getElem? (i := 5) rfl) dX6_addStep_74 dX6_addStep_77 dX6_addStep_78 dX6_addStep_80 dX6_addStep_83 hout hlocks (Nat.le_of_ble_eq_true rfl) (Nat.le_of_ble_eq_true rfl) (Nat.le_of_ble_eq_true rfl) (Nat.le_of_ble_eq_true rfl) (Nat.le_of_ble_eq_true rfl) (Nat.le_of_ble_eq_true rfl) (fun _ hq => hq)

set_option maxHeartbeats 1000000 in
set_option maxRecDepth 100000 in
theorem t_X6_addEntry_d (l : Launch) (hst : l.stackTraces = false) (g : xG) (h : xS) (I : xI) (n : Nat) (hW : xWs0 h I) (p : Nat) (hpp : p < sNp h) (j : Nat) (hj : j < sSz h p) (so a b : Int32) (hc : sCond (sSz h p) so a b = false) : xTc l yX6_addEntry (xws yX6_addEntry cX6_addEntry 8 (some FieldType.int)) 7 113 g [.ref (ga g [0]), .int (nI p), .int (nI j), .int so, .int a, .int b] (xR g (xD h) I (xFh h) n) eIA (xG_ g (xD h) I (xFh h) n) 1 6 := by
  refine xTc.of (by decide) (Nat.le_of_ble_eq_true rfl) ?_
  intro P_ e_ s m_ bl_ mt_ cd_ ls hx hb hr hown hlocks hml hout hE hK hts hH hS hl
  have hl : lv_has ls 8 [(0, .ref (ga g [0])), (1, .int (nI p)), (2, .int (nI j)), (3, .int so), (4, .int a), (5, .int b)] := hl
  have h3 := hW.1
  have hWp := hW.2.2 _ hpp
  have h8 := hWp.1
  have hws := (hWp.2.2.2 j hj).2.2
  refine lv_aload_n hx hb dX6_addEntry_0 rfl (lv_at hl 0 rfl) ?_
  refine lv_iload_n hx hb dX6_addEntry_1 rfl (lv_at hl 1 rfl) ?_
  refine x_V1 hx hb hml hown hE hS hl.1 cyX6_existingPlan tw247 (c_X6_existingPlan l g h I n p hpp h3 hW.2.1) ⟨Nat.le_of_ble_eq_true rfl, Nat.le_of_ble_eq_true rfl⟩ ⟨Nat.le_of_ble_eq_true rfl, Nat.le_of_ble_eq_true rfl⟩ (x_recv hK hH (id := [0]) (by first | trivial | (simp only [xD]; omega) | (simp [xD]; done) | (simp [xD]; omega)) (ci := 6) rfl (by decide) rfl) hH rfl rfl (Nat.le_of_ble_eq_true rfl) dX6_addEntry_2 (fun H locs hH hS => ?_)
  refine lv_astore (lv' := [(6, .ref (ga g [5, p])), (0, .ref (ga g [0])), (1, .int (nI p)), (2, .int (nI j)), (3, .int so), (4, .int a), (5, .int b)]) hx hb dX6_addEntry_5 hl (by decide) rfl (fun ls hl => ?_)
  refine lv_aload hx hb dX6_addEntry_7 (lv_at hl 0 rfl) ?_
  refine lv_iload_n hx hb dX6_addEntry_9 rfl (lv_at hl 3 rfl) ?_
  refine x_S1 hx hb hml hown hE hS hl.1 cyX6_existingStep tw372 (c_X6_existingStep l g h I n p j hpp hj h8 hWp.2.2.1) ⟨Nat.le_of_ble_eq_true rfl, Nat.le_of_ble_eq_true rfl⟩ ⟨Nat.le_of_ble_eq_true rfl, Nat.le_of_ble_eq_true rfl⟩ hH rfl rfl (Nat.le_of_ble_eq_true rfl) dX6_addEntry_10 (fun H locs hH hS => ?_)
  refine lv_astore (lv' := [(7, .ref (ga g [7, p, j])), (6, .ref (ga g [5, p])), (0, .ref (ga g [0])), (1, .int (nI p)), (2, .int (nI j)), (3, .int so), (4, .int a), (5, .int b)]) hx hb dX6_addEntry_13 hl (by decide) rfl (fun ls hl => ?_)
  refine lv_aload hx hb dX6_addEntry_15 (lv_at hl 1 rfl) ?_
  refine lv_iload_n hx hb dX6_addEntry_17 rfl (lv_at hl 5 rfl) ?_
  refine lv_iload hx hb dX6_addEntry_18 (lv_at hl 6 rfl) ?_
  refine lv_iload hx hb dX6_addEntry_20 (lv_at hl 7 rfl) ?_
  exact x_outT (x_ST hx hb hml hown hE hS hl.1 cyX6_refuseWrongCondition tw377 (t_X6_refuseWrongCondition l hst g h I n p so a b hpp h8 hWp.2.2.1 hc) ⟨Nat.le_of_ble_eq_true rfl, Nat.le_of_ble_eq_true rfl⟩ ⟨Nat.le_of_ble_eq_true rfl, Nat.le_of_ble_eq_true rfl⟩ hH rfl rfl (Nat.le_of_ble_eq_true rfl) dX6_addEntry_22) hS hout hlocks (fun _ hq => hq) (Nat.le_of_ble_eq_true rfl) (Nat.le_of_ble_eq_true rfl)

set_option maxHeartbeats 1000000 in
set_option maxRecDepth 100000 in
theorem t_X6_addEntry_u (l : Launch) (hst : l.stackTraces = false) (g : xG) (h : xS) (I : xI) (n : Nat) (hW : xWs0 h I) (p : Nat) (hpp : p < sNp h) (j : Nat) (hj : j < sSz h p) (so a b : Int32) (hc : sCond (sSz h p) so a b = true) (hu : ¬ I [5, p] 3 = 0) : xTc l yX6_addEntry (xws yX6_addEntry cX6_addEntry 8 (some FieldType.int)) 7 110 g [.ref (ga g [0]), .int (nI p), .int (nI j), .int so, .int a, .int b] (xR g (xD h) I (xFh h) n) eIS (xG_ g (xD h) I (xFh h) n) 1 6 := by
  refine xTc.of (by decide) (Nat.le_of_ble_eq_true rfl) ?_
  intro P_ e_ s m_ bl_ mt_ cd_ ls hx hb hr hown hlocks hml hout hE hK hts hH hS hl
  have hl : lv_has ls 8 [(0, .ref (ga g [0])), (1, .int (nI p)), (2, .int (nI j)), (3, .int so), (4, .int a), (5, .int b)] := hl
  have h3 := hW.1
  have hWp := hW.2.2 _ hpp
  have h8 := hWp.1
  have hws := (hWp.2.2.2 j hj).2.2
  refine lv_aload_n hx hb dX6_addEntry_0 rfl (lv_at hl 0 rfl) ?_
  refine lv_iload_n hx hb dX6_addEntry_1 rfl (lv_at hl 1 rfl) ?_
  refine x_V1 hx hb hml hown hE hS hl.1 cyX6_existingPlan tw247 (c_X6_existingPlan l g h I n p hpp h3 hW.2.1) ⟨Nat.le_of_ble_eq_true rfl, Nat.le_of_ble_eq_true rfl⟩ ⟨Nat.le_of_ble_eq_true rfl, Nat.le_of_ble_eq_true rfl⟩ (x_recv hK hH (id := [0]) (by first | trivial | (simp only [xD]; omega) | (simp [xD]; done) | (simp [xD]; omega)) (ci := 6) rfl (by decide) rfl) hH rfl rfl (Nat.le_of_ble_eq_true rfl) dX6_addEntry_2 (fun H locs hH hS => ?_)
  refine lv_astore (lv' := [(6, .ref (ga g [5, p])), (0, .ref (ga g [0])), (1, .int (nI p)), (2, .int (nI j)), (3, .int so), (4, .int a), (5, .int b)]) hx hb dX6_addEntry_5 hl (by decide) rfl (fun ls hl => ?_)
  refine lv_aload hx hb dX6_addEntry_7 (lv_at hl 0 rfl) ?_
  refine lv_iload_n hx hb dX6_addEntry_9 rfl (lv_at hl 3 rfl) ?_
  refine x_S1 hx hb hml hown hE hS hl.1 cyX6_existingStep tw372 (c_X6_existingStep l g h I n p j hpp hj h8 hWp.2.2.1) ⟨Nat.le_of_ble_eq_true rfl, Nat.le_of_ble_eq_true rfl⟩ ⟨Nat.le_of_ble_eq_true rfl, Nat.le_of_ble_eq_true rfl⟩ hH rfl rfl (Nat.le_of_ble_eq_true rfl) dX6_addEntry_10 (fun H locs hH hS => ?_)
  refine lv_astore (lv' := [(7, .ref (ga g [7, p, j])), (6, .ref (ga g [5, p])), (0, .ref (ga g [0])), (1, .int (nI p)), (2, .int (nI j)), (3, .int so), (4, .int a), (5, .int b)]) hx hb dX6_addEntry_13 hl (by decide) rfl (fun ls hl => ?_)
  refine lv_aload hx hb dX6_addEntry_15 (lv_at hl 1 rfl) ?_
  refine lv_iload_n hx hb dX6_addEntry_17 rfl (lv_at hl 5 rfl) ?_
  refine lv_iload hx hb dX6_addEntry_18 (lv_at hl 6 rfl) ?_
  refine lv_iload hx hb dX6_addEntry_20 (lv_at hl 7 rfl) ?_
  refine x_S0 hx hb hml hown hE hS hl.1 cyX6_refuseWrongCondition tw377 (c_X6_refuseWrongCondition l g h I n p so a b hpp h8 hWp.2.2.1 hc) ⟨Nat.le_of_ble_eq_true rfl, Nat.le_of_ble_eq_true rfl⟩ ⟨Nat.le_of_ble_eq_true rfl, Nat.le_of_ble_eq_true rfl⟩ hH rfl rfl (Nat.le_of_ble_eq_true rfl) dX6_addEntry_22 (fun H locs hH hS => ?_)
  refine lv_aload hx hb dX6_addEntry_25 (lv_at hl 1 rfl) ?_
  exact x_outT (x_ST hx hb hml hown hE hS hl.1 cyX6_refuseUsed tw296 (t_X6_refuseUsed l hst g h I n p hpp hu) ⟨Nat.le_of_ble_eq_true rfl, Nat.le_of_ble_eq_true rfl⟩ ⟨Nat.le_of_ble_eq_true rfl, Nat.le_of_ble_eq_true rfl⟩ hH rfl rfl (Nat.le_of_ble_eq_true rfl) dX6_addEntry_27) hS hout hlocks (fun _ hq => hq) (Nat.le_of_ble_eq_true rfl) (Nat.le_of_ble_eq_true rfl)

set_option maxHeartbeats 1000000 in
set_option maxRecDepth 100000 in
theorem t_X6_addEntry_f (l : Launch) (hst : l.stackTraces = false) (g : xG) (h : xS) (I : xI) (n : Nat) (hW : xWs0 h I) (p : Nat) (hpp : p < sNp h) (j : Nat) (hj : j < sSz h p) (so a b : Int32) (hc : sCond (sSz h p) so a b = true) (hu : I [5, p] 3 = 0) (hf : sCn h p j 0 = 3) : xTc l yX6_addEntry (xws yX6_addEntry cX6_addEntry 8 (some FieldType.int)) 7 110 g [.ref (ga g [0]), .int (nI p), .int (nI j), .int so, .int a, .int b] (xR g (xD h) I (xFh h) n) eIS (xG_ g (xD h) I (xFh h) n) 1 6 := by
  refine xTc.of (by decide) (Nat.le_of_ble_eq_true rfl) ?_
  intro P_ e_ s m_ bl_ mt_ cd_ ls hx hb hr hown hlocks hml hout hE hK hts hH hS hl
  have hl : lv_has ls 8 [(0, .ref (ga g [0])), (1, .int (nI p)), (2, .int (nI j)), (3, .int so), (4, .int a), (5, .int b)] := hl
  have h3 := hW.1
  have hWp := hW.2.2 _ hpp
  have h8 := hWp.1
  have hws := (hWp.2.2.2 j hj).2.2
  refine lv_aload_n hx hb dX6_addEntry_0 rfl (lv_at hl 0 rfl) ?_
  refine lv_iload_n hx hb dX6_addEntry_1 rfl (lv_at hl 1 rfl) ?_
  refine x_V1 hx hb hml hown hE hS hl.1 cyX6_existingPlan tw247 (c_X6_existingPlan l g h I n p hpp h3 hW.2.1) ⟨Nat.le_of_ble_eq_true rfl, Nat.le_of_ble_eq_true rfl⟩ ⟨Nat.le_of_ble_eq_true rfl, Nat.le_of_ble_eq_true rfl⟩ (x_recv hK hH (id := [0]) (by first | trivial | (simp only [xD]; omega) | (simp [xD]; done) | (simp [xD]; omega)) (ci := 6) rfl (by decide) rfl) hH rfl rfl (Nat.le_of_ble_eq_true rfl) dX6_addEntry_2 (fun H locs hH hS => ?_)
  refine lv_astore (lv' := [(6, .ref (ga g [5, p])), (0, .ref (ga g [0])), (1, .int (nI p)), (2, .int (nI j)), (3, .int so), (4, .int a), (5, .int b)]) hx hb dX6_addEntry_5 hl (by decide) rfl (fun ls hl => ?_)
  refine lv_aload hx hb dX6_addEntry_7 (lv_at hl 0 rfl) ?_
  refine lv_iload_n hx hb dX6_addEntry_9 rfl (lv_at hl 3 rfl) ?_
  refine x_S1 hx hb hml hown hE hS hl.1 cyX6_existingStep tw372 (c_X6_existingStep l g h I n p j hpp hj h8 hWp.2.2.1) ⟨Nat.le_of_ble_eq_true rfl, Nat.le_of_ble_eq_true rfl⟩ ⟨Nat.le_of_ble_eq_true rfl, Nat.le_of_ble_eq_true rfl⟩ hH rfl rfl (Nat.le_of_ble_eq_true rfl) dX6_addEntry_10 (fun H locs hH hS => ?_)
  refine lv_astore (lv' := [(7, .ref (ga g [7, p, j])), (6, .ref (ga g [5, p])), (0, .ref (ga g [0])), (1, .int (nI p)), (2, .int (nI j)), (3, .int so), (4, .int a), (5, .int b)]) hx hb dX6_addEntry_13 hl (by decide) rfl (fun ls hl => ?_)
  refine lv_aload hx hb dX6_addEntry_15 (lv_at hl 1 rfl) ?_
  refine lv_iload_n hx hb dX6_addEntry_17 rfl (lv_at hl 5 rfl) ?_
  refine lv_iload hx hb dX6_addEntry_18 (lv_at hl 6 rfl) ?_
  refine lv_iload hx hb dX6_addEntry_20 (lv_at hl 7 rfl) ?_
  refine x_S0 hx hb hml hown hE hS hl.1 cyX6_refuseWrongCondition tw377 (c_X6_refuseWrongCondition l g h I n p so a b hpp h8 hWp.2.2.1 hc) ⟨Nat.le_of_ble_eq_true rfl, Nat.le_of_ble_eq_true rfl⟩ ⟨Nat.le_of_ble_eq_true rfl, Nat.le_of_ble_eq_true rfl⟩ hH rfl rfl (Nat.le_of_ble_eq_true rfl) dX6_addEntry_22 (fun H locs hH hS => ?_)
  refine lv_aload hx hb dX6_addEntry_25 (lv_at hl 1 rfl) ?_
  refine x_S0 hx hb hml hown hE hS hl.1 cyX6_refuseUsed tw296 (c_X6_refuseUsed l g h I n p hpp hu) ⟨Nat.le_of_ble_eq_true rfl, Nat.le_of_ble_eq_true rfl⟩ ⟨Nat.le_of_ble_eq_true rfl, Nat.le_of_ble_eq_true rfl⟩ hH rfl rfl (Nat.le_of_ble_eq_true rfl) dX6_addEntry_27 (fun H locs hH hS => ?_)
  refine lv_aload hx hb dX6_addEntry_30 (lv_at hl 0 rfl) ?_
  refine x_get (C := RX5) (T := TX5) (N := 7) (ci := 5) hx hb hts iu5 hown hK hH (id := [7, p, j]) (by first | trivial | (simp only [xD]; omega) | (simp [xD]; done) | (simp [xD]; omega)) rfl rfl (by decide) 2 (by decide) (hts _ tw331) (fun _ h9 => h9) rfl (v := .ref (ga g [8, p, j, 0])) rfl dX6_addEntry_32 ?_
  exact x_outT (x_ST hx hb hml hown hE hS hl.1 cyX6_refuseFull tw393 (t_X6_refuseFull l hst g h I n p j 0 hpp hj (by decide) (hws 0 (by decide)).1 (hws 0 (by decide)).2.1 hf) ⟨Nat.le_of_ble_eq_true rfl, Nat.le_of_ble_eq_true rfl⟩ ⟨Nat.le_of_ble_eq_true rfl, Nat.le_of_ble_eq_true rfl⟩ hH rfl rfl (Nat.le_of_ble_eq_true rfl) dX6_addEntry_35) hS hout hlocks (fun _ hq => hq) (Nat.le_of_ble_eq_true rfl) (Nat.le_of_ble_eq_true rfl)

set_option maxHeartbeats 1000000 in
set_option maxRecDepth 100000 in
theorem t_X6_addExit_d (l : Launch) (hst : l.stackTraces = false) (g : xG) (h : xS) (I : xI) (n : Nat) (hW : xWs0 h I) (p : Nat) (hpp : p < sNp h) (j : Nat) (hj : j < sSz h p) (so a b : Int32) (hc : sCond (sSz h p) so a b = false) : xTc l yX6_addExit (xws yX6_addExit cX6_addExit 8 (some FieldType.int)) 7 113 g [.ref (ga g [0]), .int (nI p), .int (nI j), .int so, .int a, .int b] (xR g (xD h) I (xFh h) n) eIA (xG_ g (xD h) I (xFh h) n) 1 6 := by
  refine xTc.of (by decide) (Nat.le_of_ble_eq_true rfl) ?_
  intro P_ e_ s m_ bl_ mt_ cd_ ls hx hb hr hown hlocks hml hout hE hK hts hH hS hl
  have hl : lv_has ls 8 [(0, .ref (ga g [0])), (1, .int (nI p)), (2, .int (nI j)), (3, .int so), (4, .int a), (5, .int b)] := hl
  have h3 := hW.1
  have hWp := hW.2.2 _ hpp
  have h8 := hWp.1
  have hws := (hWp.2.2.2 j hj).2.2
  refine lv_aload_n hx hb dX6_addExit_0 rfl (lv_at hl 0 rfl) ?_
  refine lv_iload_n hx hb dX6_addExit_1 rfl (lv_at hl 1 rfl) ?_
  refine x_V1 hx hb hml hown hE hS hl.1 cyX6_existingPlan tw247 (c_X6_existingPlan l g h I n p hpp h3 hW.2.1) ⟨Nat.le_of_ble_eq_true rfl, Nat.le_of_ble_eq_true rfl⟩ ⟨Nat.le_of_ble_eq_true rfl, Nat.le_of_ble_eq_true rfl⟩ (x_recv hK hH (id := [0]) (by first | trivial | (simp only [xD]; omega) | (simp [xD]; done) | (simp [xD]; omega)) (ci := 6) rfl (by decide) rfl) hH rfl rfl (Nat.le_of_ble_eq_true rfl) dX6_addExit_2 (fun H locs hH hS => ?_)
  refine lv_astore (lv' := [(6, .ref (ga g [5, p])), (0, .ref (ga g [0])), (1, .int (nI p)), (2, .int (nI j)), (3, .int so), (4, .int a), (5, .int b)]) hx hb dX6_addExit_5 hl (by decide) rfl (fun ls hl => ?_)
  refine lv_aload hx hb dX6_addExit_7 (lv_at hl 0 rfl) ?_
  refine lv_iload_n hx hb dX6_addExit_9 rfl (lv_at hl 3 rfl) ?_
  refine x_S1 hx hb hml hown hE hS hl.1 cyX6_existingStep tw372 (c_X6_existingStep l g h I n p j hpp hj h8 hWp.2.2.1) ⟨Nat.le_of_ble_eq_true rfl, Nat.le_of_ble_eq_true rfl⟩ ⟨Nat.le_of_ble_eq_true rfl, Nat.le_of_ble_eq_true rfl⟩ hH rfl rfl (Nat.le_of_ble_eq_true rfl) dX6_addExit_10 (fun H locs hH hS => ?_)
  refine lv_astore (lv' := [(7, .ref (ga g [7, p, j])), (6, .ref (ga g [5, p])), (0, .ref (ga g [0])), (1, .int (nI p)), (2, .int (nI j)), (3, .int so), (4, .int a), (5, .int b)]) hx hb dX6_addExit_13 hl (by decide) rfl (fun ls hl => ?_)
  refine lv_aload hx hb dX6_addExit_15 (lv_at hl 1 rfl) ?_
  refine lv_iload_n hx hb dX6_addExit_17 rfl (lv_at hl 5 rfl) ?_
  refine lv_iload hx hb dX6_addExit_18 (lv_at hl 6 rfl) ?_
  refine lv_iload hx hb dX6_addExit_20 (lv_at hl 7 rfl) ?_
  exact x_outT (x_ST hx hb hml hown hE hS hl.1 cyX6_refuseWrongCondition tw377 (t_X6_refuseWrongCondition l hst g h I n p so a b hpp h8 hWp.2.2.1 hc) ⟨Nat.le_of_ble_eq_true rfl, Nat.le_of_ble_eq_true rfl⟩ ⟨Nat.le_of_ble_eq_true rfl, Nat.le_of_ble_eq_true rfl⟩ hH rfl rfl (Nat.le_of_ble_eq_true rfl) dX6_addExit_22) hS hout hlocks (fun _ hq => hq) (Nat.le_of_ble_eq_true rfl) (Nat.le_of_ble_eq_true rfl)

set_option maxHeartbeats 1000000 in
set_option maxRecDepth 100000 in
theorem t_X6_addExit_m (l : Launch) (hst : l.stackTraces = false) (g : xG) (h : xS) (I : xI) (n : Nat) (hW : xWs0 h I) (p : Nat) (hpp : p < sNp h) (j : Nat) (hj : j < sSz h p) (so a b : Int32) (hc : sCond (sSz h p) so a b = true) (hm : I [7, p, j] 0 = 109) : xTc l yX6_addExit (xws yX6_addExit cX6_addExit 8 (some FieldType.int)) 6 90 g [.ref (ga g [0]), .int (nI p), .int (nI j), .int so, .int a, .int b] (xR g (xD h) I (xFh h) n) eUO (xG_ g (xD h) I (xFh h) n) 1 6 := by
  refine xTc.of (by decide) (Nat.le_of_ble_eq_true rfl) ?_
  intro P_ e_ s m_ bl_ mt_ cd_ ls hx hb hr hown hlocks hml hout hE hK hts hH hS hl
  have hl : lv_has ls 8 [(0, .ref (ga g [0])), (1, .int (nI p)), (2, .int (nI j)), (3, .int so), (4, .int a), (5, .int b)] := hl
  have h3 := hW.1
  have hWp := hW.2.2 _ hpp
  have h8 := hWp.1
  have hws := (hWp.2.2.2 j hj).2.2
  refine lv_aload_n hx hb dX6_addExit_0 rfl (lv_at hl 0 rfl) ?_
  refine lv_iload_n hx hb dX6_addExit_1 rfl (lv_at hl 1 rfl) ?_
  refine x_V1 hx hb hml hown hE hS hl.1 cyX6_existingPlan tw247 (c_X6_existingPlan l g h I n p hpp h3 hW.2.1) ⟨Nat.le_of_ble_eq_true rfl, Nat.le_of_ble_eq_true rfl⟩ ⟨Nat.le_of_ble_eq_true rfl, Nat.le_of_ble_eq_true rfl⟩ (x_recv hK hH (id := [0]) (by first | trivial | (simp only [xD]; omega) | (simp [xD]; done) | (simp [xD]; omega)) (ci := 6) rfl (by decide) rfl) hH rfl rfl (Nat.le_of_ble_eq_true rfl) dX6_addExit_2 (fun H locs hH hS => ?_)
  refine lv_astore (lv' := [(6, .ref (ga g [5, p])), (0, .ref (ga g [0])), (1, .int (nI p)), (2, .int (nI j)), (3, .int so), (4, .int a), (5, .int b)]) hx hb dX6_addExit_5 hl (by decide) rfl (fun ls hl => ?_)
  refine lv_aload hx hb dX6_addExit_7 (lv_at hl 0 rfl) ?_
  refine lv_iload_n hx hb dX6_addExit_9 rfl (lv_at hl 3 rfl) ?_
  refine x_S1 hx hb hml hown hE hS hl.1 cyX6_existingStep tw372 (c_X6_existingStep l g h I n p j hpp hj h8 hWp.2.2.1) ⟨Nat.le_of_ble_eq_true rfl, Nat.le_of_ble_eq_true rfl⟩ ⟨Nat.le_of_ble_eq_true rfl, Nat.le_of_ble_eq_true rfl⟩ hH rfl rfl (Nat.le_of_ble_eq_true rfl) dX6_addExit_10 (fun H locs hH hS => ?_)
  refine lv_astore (lv' := [(7, .ref (ga g [7, p, j])), (6, .ref (ga g [5, p])), (0, .ref (ga g [0])), (1, .int (nI p)), (2, .int (nI j)), (3, .int so), (4, .int a), (5, .int b)]) hx hb dX6_addExit_13 hl (by decide) rfl (fun ls hl => ?_)
  refine lv_aload hx hb dX6_addExit_15 (lv_at hl 1 rfl) ?_
  refine lv_iload_n hx hb dX6_addExit_17 rfl (lv_at hl 5 rfl) ?_
  refine lv_iload hx hb dX6_addExit_18 (lv_at hl 6 rfl) ?_
  refine lv_iload hx hb dX6_addExit_20 (lv_at hl 7 rfl) ?_
  refine x_S0 hx hb hml hown hE hS hl.1 cyX6_refuseWrongCondition tw377 (c_X6_refuseWrongCondition l g h I n p so a b hpp h8 hWp.2.2.1 hc) ⟨Nat.le_of_ble_eq_true rfl, Nat.le_of_ble_eq_true rfl⟩ ⟨Nat.le_of_ble_eq_true rfl, Nat.le_of_ble_eq_true rfl⟩ hH rfl rfl (Nat.le_of_ble_eq_true rfl) dX6_addExit_22 (fun H locs hH hS => ?_)
  refine lv_aload hx hb dX6_addExit_25 (lv_at hl 0 rfl) ?_
  refine x_get (C := RX5) (T := TX5) (N := 7) (ci := 5) hx hb hts iu5 hown hK hH (id := [7, p, j]) (by first | trivial | (simp only [xD]; omega) | (simp [xD]; done) | (simp [xD]; omega)) rfl rfl (by decide) 0 (by decide) (hts _ tw326) (fun _ h9 => h9) rfl (v := .int (I [7, p, j] 0)) rfl dX6_addExit_27 ?_
  refine lv_bipush (v := 109) hx hb dX6_addExit_30 (by decide) ?_
  refine lv_icmp_ne (tgt := 45) hx hb dX6_addExit_32 (by decide) (fun q_ => absurd q_ (fun z_ => z_ hm)) (fun _ => ?_)
  exact x_thr (text := "a milestone has no exit conditions") hx hb hst hown hE hS hH (hl.1.trans hml.symm) thUO (List.mem_of_getElem? (i := 9) rfl) dX6_addExit_35 dX6_addExit_38 dX6_addExit_39 dX6_addExit_41 dX6_addExit_44 hout hlocks (Nat.le_of_ble_eq_true rfl) (Nat.le_of_ble_eq_true rfl) (Nat.le_of_ble_eq_true rfl) (Nat.le_of_ble_eq_true rfl) (Nat.le_of_ble_eq_true rfl) (Nat.le_of_ble_eq_true rfl) (fun _ hq => hq)

set_option maxHeartbeats 1000000 in
set_option maxRecDepth 100000 in
theorem t_X6_addExit_u (l : Launch) (hst : l.stackTraces = false) (g : xG) (h : xS) (I : xI) (n : Nat) (hW : xWs0 h I) (p : Nat) (hpp : p < sNp h) (j : Nat) (hj : j < sSz h p) (so a b : Int32) (hc : sCond (sSz h p) so a b = true) (hm : ¬ I [7, p, j] 0 = 109) (hu : ¬ I [5, p] 3 = 0) : xTc l yX6_addExit (xws yX6_addExit cX6_addExit 8 (some FieldType.int)) 7 110 g [.ref (ga g [0]), .int (nI p), .int (nI j), .int so, .int a, .int b] (xR g (xD h) I (xFh h) n) eIS (xG_ g (xD h) I (xFh h) n) 1 6 := by
  refine xTc.of (by decide) (Nat.le_of_ble_eq_true rfl) ?_
  intro P_ e_ s m_ bl_ mt_ cd_ ls hx hb hr hown hlocks hml hout hE hK hts hH hS hl
  have hl : lv_has ls 8 [(0, .ref (ga g [0])), (1, .int (nI p)), (2, .int (nI j)), (3, .int so), (4, .int a), (5, .int b)] := hl
  have h3 := hW.1
  have hWp := hW.2.2 _ hpp
  have h8 := hWp.1
  have hws := (hWp.2.2.2 j hj).2.2
  refine lv_aload_n hx hb dX6_addExit_0 rfl (lv_at hl 0 rfl) ?_
  refine lv_iload_n hx hb dX6_addExit_1 rfl (lv_at hl 1 rfl) ?_
  refine x_V1 hx hb hml hown hE hS hl.1 cyX6_existingPlan tw247 (c_X6_existingPlan l g h I n p hpp h3 hW.2.1) ⟨Nat.le_of_ble_eq_true rfl, Nat.le_of_ble_eq_true rfl⟩ ⟨Nat.le_of_ble_eq_true rfl, Nat.le_of_ble_eq_true rfl⟩ (x_recv hK hH (id := [0]) (by first | trivial | (simp only [xD]; omega) | (simp [xD]; done) | (simp [xD]; omega)) (ci := 6) rfl (by decide) rfl) hH rfl rfl (Nat.le_of_ble_eq_true rfl) dX6_addExit_2 (fun H locs hH hS => ?_)
  refine lv_astore (lv' := [(6, .ref (ga g [5, p])), (0, .ref (ga g [0])), (1, .int (nI p)), (2, .int (nI j)), (3, .int so), (4, .int a), (5, .int b)]) hx hb dX6_addExit_5 hl (by decide) rfl (fun ls hl => ?_)
  refine lv_aload hx hb dX6_addExit_7 (lv_at hl 0 rfl) ?_
  refine lv_iload_n hx hb dX6_addExit_9 rfl (lv_at hl 3 rfl) ?_
  refine x_S1 hx hb hml hown hE hS hl.1 cyX6_existingStep tw372 (c_X6_existingStep l g h I n p j hpp hj h8 hWp.2.2.1) ⟨Nat.le_of_ble_eq_true rfl, Nat.le_of_ble_eq_true rfl⟩ ⟨Nat.le_of_ble_eq_true rfl, Nat.le_of_ble_eq_true rfl⟩ hH rfl rfl (Nat.le_of_ble_eq_true rfl) dX6_addExit_10 (fun H locs hH hS => ?_)
  refine lv_astore (lv' := [(7, .ref (ga g [7, p, j])), (6, .ref (ga g [5, p])), (0, .ref (ga g [0])), (1, .int (nI p)), (2, .int (nI j)), (3, .int so), (4, .int a), (5, .int b)]) hx hb dX6_addExit_13 hl (by decide) rfl (fun ls hl => ?_)
  refine lv_aload hx hb dX6_addExit_15 (lv_at hl 1 rfl) ?_
  refine lv_iload_n hx hb dX6_addExit_17 rfl (lv_at hl 5 rfl) ?_
  refine lv_iload hx hb dX6_addExit_18 (lv_at hl 6 rfl) ?_
  refine lv_iload hx hb dX6_addExit_20 (lv_at hl 7 rfl) ?_
  refine x_S0 hx hb hml hown hE hS hl.1 cyX6_refuseWrongCondition tw377 (c_X6_refuseWrongCondition l g h I n p so a b hpp h8 hWp.2.2.1 hc) ⟨Nat.le_of_ble_eq_true rfl, Nat.le_of_ble_eq_true rfl⟩ ⟨Nat.le_of_ble_eq_true rfl, Nat.le_of_ble_eq_true rfl⟩ hH rfl rfl (Nat.le_of_ble_eq_true rfl) dX6_addExit_22 (fun H locs hH hS => ?_)
  refine lv_aload hx hb dX6_addExit_25 (lv_at hl 0 rfl) ?_
  refine x_get (C := RX5) (T := TX5) (N := 7) (ci := 5) hx hb hts iu5 hown hK hH (id := [7, p, j]) (by first | trivial | (simp only [xD]; omega) | (simp [xD]; done) | (simp [xD]; omega)) rfl rfl (by decide) 0 (by decide) (hts _ tw326) (fun _ h9 => h9) rfl (v := .int (I [7, p, j] 0)) rfl dX6_addExit_27 ?_
  refine lv_bipush (v := 109) hx hb dX6_addExit_30 (by decide) ?_
  refine lv_icmp_ne (tgt := 45) hx hb dX6_addExit_32 (by decide) (fun _ => ?_) (fun q_ => absurd q_ hm)
  refine lv_aload hx hb dX6_addExit_45 (lv_at hl 1 rfl) ?_
  exact x_outT (x_ST hx hb hml hown hE hS hl.1 cyX6_refuseUsed tw296 (t_X6_refuseUsed l hst g h I n p hpp hu) ⟨Nat.le_of_ble_eq_true rfl, Nat.le_of_ble_eq_true rfl⟩ ⟨Nat.le_of_ble_eq_true rfl, Nat.le_of_ble_eq_true rfl⟩ hH rfl rfl (Nat.le_of_ble_eq_true rfl) dX6_addExit_47) hS hout hlocks (fun _ hq => hq) (Nat.le_of_ble_eq_true rfl) (Nat.le_of_ble_eq_true rfl)

set_option maxHeartbeats 1000000 in
set_option maxRecDepth 100000 in
theorem t_X6_addExit_f (l : Launch) (hst : l.stackTraces = false) (g : xG) (h : xS) (I : xI) (n : Nat) (hW : xWs0 h I) (p : Nat) (hpp : p < sNp h) (j : Nat) (hj : j < sSz h p) (so a b : Int32) (hc : sCond (sSz h p) so a b = true) (hm : ¬ I [7, p, j] 0 = 109) (hu : I [5, p] 3 = 0) (hf : sCn h p j 1 = 3) : xTc l yX6_addExit (xws yX6_addExit cX6_addExit 8 (some FieldType.int)) 7 110 g [.ref (ga g [0]), .int (nI p), .int (nI j), .int so, .int a, .int b] (xR g (xD h) I (xFh h) n) eIS (xG_ g (xD h) I (xFh h) n) 1 6 := by
  refine xTc.of (by decide) (Nat.le_of_ble_eq_true rfl) ?_
  intro P_ e_ s m_ bl_ mt_ cd_ ls hx hb hr hown hlocks hml hout hE hK hts hH hS hl
  have hl : lv_has ls 8 [(0, .ref (ga g [0])), (1, .int (nI p)), (2, .int (nI j)), (3, .int so), (4, .int a), (5, .int b)] := hl
  have h3 := hW.1
  have hWp := hW.2.2 _ hpp
  have h8 := hWp.1
  have hws := (hWp.2.2.2 j hj).2.2
  refine lv_aload_n hx hb dX6_addExit_0 rfl (lv_at hl 0 rfl) ?_
  refine lv_iload_n hx hb dX6_addExit_1 rfl (lv_at hl 1 rfl) ?_
  refine x_V1 hx hb hml hown hE hS hl.1 cyX6_existingPlan tw247 (c_X6_existingPlan l g h I n p hpp h3 hW.2.1) ⟨Nat.le_of_ble_eq_true rfl, Nat.le_of_ble_eq_true rfl⟩ ⟨Nat.le_of_ble_eq_true rfl, Nat.le_of_ble_eq_true rfl⟩ (x_recv hK hH (id := [0]) (by first | trivial | (simp only [xD]; omega) | (simp [xD]; done) | (simp [xD]; omega)) (ci := 6) rfl (by decide) rfl) hH rfl rfl (Nat.le_of_ble_eq_true rfl) dX6_addExit_2 (fun H locs hH hS => ?_)
  refine lv_astore (lv' := [(6, .ref (ga g [5, p])), (0, .ref (ga g [0])), (1, .int (nI p)), (2, .int (nI j)), (3, .int so), (4, .int a), (5, .int b)]) hx hb dX6_addExit_5 hl (by decide) rfl (fun ls hl => ?_)
  refine lv_aload hx hb dX6_addExit_7 (lv_at hl 0 rfl) ?_
  refine lv_iload_n hx hb dX6_addExit_9 rfl (lv_at hl 3 rfl) ?_
  refine x_S1 hx hb hml hown hE hS hl.1 cyX6_existingStep tw372 (c_X6_existingStep l g h I n p j hpp hj h8 hWp.2.2.1) ⟨Nat.le_of_ble_eq_true rfl, Nat.le_of_ble_eq_true rfl⟩ ⟨Nat.le_of_ble_eq_true rfl, Nat.le_of_ble_eq_true rfl⟩ hH rfl rfl (Nat.le_of_ble_eq_true rfl) dX6_addExit_10 (fun H locs hH hS => ?_)
  refine lv_astore (lv' := [(7, .ref (ga g [7, p, j])), (6, .ref (ga g [5, p])), (0, .ref (ga g [0])), (1, .int (nI p)), (2, .int (nI j)), (3, .int so), (4, .int a), (5, .int b)]) hx hb dX6_addExit_13 hl (by decide) rfl (fun ls hl => ?_)
  refine lv_aload hx hb dX6_addExit_15 (lv_at hl 1 rfl) ?_
  refine lv_iload_n hx hb dX6_addExit_17 rfl (lv_at hl 5 rfl) ?_
  refine lv_iload hx hb dX6_addExit_18 (lv_at hl 6 rfl) ?_
  refine lv_iload hx hb dX6_addExit_20 (lv_at hl 7 rfl) ?_
  refine x_S0 hx hb hml hown hE hS hl.1 cyX6_refuseWrongCondition tw377 (c_X6_refuseWrongCondition l g h I n p so a b hpp h8 hWp.2.2.1 hc) ⟨Nat.le_of_ble_eq_true rfl, Nat.le_of_ble_eq_true rfl⟩ ⟨Nat.le_of_ble_eq_true rfl, Nat.le_of_ble_eq_true rfl⟩ hH rfl rfl (Nat.le_of_ble_eq_true rfl) dX6_addExit_22 (fun H locs hH hS => ?_)
  refine lv_aload hx hb dX6_addExit_25 (lv_at hl 0 rfl) ?_
  refine x_get (C := RX5) (T := TX5) (N := 7) (ci := 5) hx hb hts iu5 hown hK hH (id := [7, p, j]) (by first | trivial | (simp only [xD]; omega) | (simp [xD]; done) | (simp [xD]; omega)) rfl rfl (by decide) 0 (by decide) (hts _ tw326) (fun _ h9 => h9) rfl (v := .int (I [7, p, j] 0)) rfl dX6_addExit_27 ?_
  refine lv_bipush (v := 109) hx hb dX6_addExit_30 (by decide) ?_
  refine lv_icmp_ne (tgt := 45) hx hb dX6_addExit_32 (by decide) (fun _ => ?_) (fun q_ => absurd q_ hm)
  refine lv_aload hx hb dX6_addExit_45 (lv_at hl 1 rfl) ?_
  refine x_S0 hx hb hml hown hE hS hl.1 cyX6_refuseUsed tw296 (c_X6_refuseUsed l g h I n p hpp hu) ⟨Nat.le_of_ble_eq_true rfl, Nat.le_of_ble_eq_true rfl⟩ ⟨Nat.le_of_ble_eq_true rfl, Nat.le_of_ble_eq_true rfl⟩ hH rfl rfl (Nat.le_of_ble_eq_true rfl) dX6_addExit_47 (fun H locs hH hS => ?_)
  refine lv_aload hx hb dX6_addExit_50 (lv_at hl 0 rfl) ?_
  refine x_get (C := RX5) (T := TX5) (N := 7) (ci := 5) hx hb hts iu5 hown hK hH (id := [7, p, j]) (by first | trivial | (simp only [xD]; omega) | (simp [xD]; done) | (simp [xD]; omega)) rfl rfl (by decide) 3 (by decide) (hts _ tw334) (fun _ h9 => h9) rfl (v := .ref (ga g [8, p, j, 1])) rfl dX6_addExit_52 ?_
  exact x_outT (x_ST hx hb hml hown hE hS hl.1 cyX6_refuseFull tw393 (t_X6_refuseFull l hst g h I n p j 1 hpp hj (by decide) (hws 1 (by decide)).1 (hws 1 (by decide)).2.1 hf) ⟨Nat.le_of_ble_eq_true rfl, Nat.le_of_ble_eq_true rfl⟩ ⟨Nat.le_of_ble_eq_true rfl, Nat.le_of_ble_eq_true rfl⟩ hH rfl rfl (Nat.le_of_ble_eq_true rfl) dX6_addExit_55) hS hout hlocks (fun _ hq => hq) (Nat.le_of_ble_eq_true rfl) (Nat.le_of_ble_eq_true rfl)

set_option maxHeartbeats 1000000 in
set_option maxRecDepth 100000 in
theorem t_X6_setRequired_k (l : Launch) (hst : l.stackTraces = false) (g : xG) (h : xS) (I : xI) (n : Nat) (hW : xWs0 h I) (p : Nat) (hpp : p < sNp h) (j : Nat) (hj : j < sSz h p) (v : Int32) (hk : ¬ I [7, p, j] 0 = 116)  : xTc l yX6_setRequired (xws yX6_setRequired cX6_setRequired 7 (some FieldType.boolean)) 7 110 g [.ref (ga g [0]), .int (nI p), .int (nI j), .int v] (xR g (xD h) I (xFh h) n) eUO (xG_ g (xD h) I (xFh h) n) 1 6 := by
  refine xTc.of (by decide) (Nat.le_of_ble_eq_true rfl) ?_
  intro P_ e_ s m_ bl_ mt_ cd_ ls hx hb hr hown hlocks hml hout hE hK hts hH hS hl
  have hl : lv_has ls 7 [(0, .ref (ga g [0])), (1, .int (nI p)), (2, .int (nI j)), (3, .int v)] := hl
  have h3 := hW.1
  have hWp := hW.2.2 _ hpp
  have h8 := hWp.1
  refine lv_aload_n hx hb dX6_setRequired_0 rfl (lv_at hl 0 rfl) ?_
  refine lv_iload_n hx hb dX6_setRequired_1 rfl (lv_at hl 1 rfl) ?_
  refine x_V1 hx hb hml hown hE hS hl.1 cyX6_existingPlan tw247 (c_X6_existingPlan l g h I n p hpp h3 hW.2.1) ⟨Nat.le_of_ble_eq_true rfl, Nat.le_of_ble_eq_true rfl⟩ ⟨Nat.le_of_ble_eq_true rfl, Nat.le_of_ble_eq_true rfl⟩ (x_recv hK hH (id := [0]) (by first | trivial | (simp only [xD]; omega) | (simp [xD]; done) | (simp [xD]; omega)) (ci := 6) rfl (by decide) rfl) hH rfl rfl (Nat.le_of_ble_eq_true rfl) dX6_setRequired_2 (fun H locs hH hS => ?_)
  refine lv_astore (lv' := [(4, .ref (ga g [5, p])), (0, .ref (ga g [0])), (1, .int (nI p)), (2, .int (nI j)), (3, .int v)]) hx hb dX6_setRequired_5 hl (by decide) rfl (fun ls hl => ?_)
  refine lv_aload hx hb dX6_setRequired_7 (lv_at hl 0 rfl) ?_
  refine lv_iload_n hx hb dX6_setRequired_9 rfl (lv_at hl 3 rfl) ?_
  refine x_S1 hx hb hml hown hE hS hl.1 cyX6_existingStep tw372 (c_X6_existingStep l g h I n p j hpp hj h8 hWp.2.2.1) ⟨Nat.le_of_ble_eq_true rfl, Nat.le_of_ble_eq_true rfl⟩ ⟨Nat.le_of_ble_eq_true rfl, Nat.le_of_ble_eq_true rfl⟩ hH rfl rfl (Nat.le_of_ble_eq_true rfl) dX6_setRequired_10 (fun H locs hH hS => ?_)
  refine lv_astore (lv' := [(5, .ref (ga g [7, p, j])), (4, .ref (ga g [5, p])), (0, .ref (ga g [0])), (1, .int (nI p)), (2, .int (nI j)), (3, .int v)]) hx hb dX6_setRequired_13 hl (by decide) rfl (fun ls hl => ?_)
  refine lv_aload hx hb dX6_setRequired_15 (lv_at hl 0 rfl) ?_
  exact x_outT (x_ST hx hb hml hown hE hS hl.1 cyX6_refuseOtherThanTask tw447 (t_X6_refuseOtherThanTask l hst g h I n p j hpp hj hk) ⟨Nat.le_of_ble_eq_true rfl, Nat.le_of_ble_eq_true rfl⟩ ⟨Nat.le_of_ble_eq_true rfl, Nat.le_of_ble_eq_true rfl⟩ hH rfl rfl (Nat.le_of_ble_eq_true rfl) dX6_setRequired_17) hS hout hlocks (fun _ hq => hq) (Nat.le_of_ble_eq_true rfl) (Nat.le_of_ble_eq_true rfl)

set_option maxHeartbeats 1000000 in
set_option maxRecDepth 100000 in
theorem t_X6_setRequired_u (l : Launch) (hst : l.stackTraces = false) (g : xG) (h : xS) (I : xI) (n : Nat) (hW : xWs0 h I) (p : Nat) (hpp : p < sNp h) (j : Nat) (hj : j < sSz h p) (v : Int32) (hk : I [7, p, j] 0 = 116) (hu : ¬ I [5, p] 3 = 0)  : xTc l yX6_setRequired (xws yX6_setRequired cX6_setRequired 7 (some FieldType.boolean)) 7 110 g [.ref (ga g [0]), .int (nI p), .int (nI j), .int v] (xR g (xD h) I (xFh h) n) eIS (xG_ g (xD h) I (xFh h) n) 1 6 := by
  refine xTc.of (by decide) (Nat.le_of_ble_eq_true rfl) ?_
  intro P_ e_ s m_ bl_ mt_ cd_ ls hx hb hr hown hlocks hml hout hE hK hts hH hS hl
  have hl : lv_has ls 7 [(0, .ref (ga g [0])), (1, .int (nI p)), (2, .int (nI j)), (3, .int v)] := hl
  have h3 := hW.1
  have hWp := hW.2.2 _ hpp
  have h8 := hWp.1
  refine lv_aload_n hx hb dX6_setRequired_0 rfl (lv_at hl 0 rfl) ?_
  refine lv_iload_n hx hb dX6_setRequired_1 rfl (lv_at hl 1 rfl) ?_
  refine x_V1 hx hb hml hown hE hS hl.1 cyX6_existingPlan tw247 (c_X6_existingPlan l g h I n p hpp h3 hW.2.1) ⟨Nat.le_of_ble_eq_true rfl, Nat.le_of_ble_eq_true rfl⟩ ⟨Nat.le_of_ble_eq_true rfl, Nat.le_of_ble_eq_true rfl⟩ (x_recv hK hH (id := [0]) (by first | trivial | (simp only [xD]; omega) | (simp [xD]; done) | (simp [xD]; omega)) (ci := 6) rfl (by decide) rfl) hH rfl rfl (Nat.le_of_ble_eq_true rfl) dX6_setRequired_2 (fun H locs hH hS => ?_)
  refine lv_astore (lv' := [(4, .ref (ga g [5, p])), (0, .ref (ga g [0])), (1, .int (nI p)), (2, .int (nI j)), (3, .int v)]) hx hb dX6_setRequired_5 hl (by decide) rfl (fun ls hl => ?_)
  refine lv_aload hx hb dX6_setRequired_7 (lv_at hl 0 rfl) ?_
  refine lv_iload_n hx hb dX6_setRequired_9 rfl (lv_at hl 3 rfl) ?_
  refine x_S1 hx hb hml hown hE hS hl.1 cyX6_existingStep tw372 (c_X6_existingStep l g h I n p j hpp hj h8 hWp.2.2.1) ⟨Nat.le_of_ble_eq_true rfl, Nat.le_of_ble_eq_true rfl⟩ ⟨Nat.le_of_ble_eq_true rfl, Nat.le_of_ble_eq_true rfl⟩ hH rfl rfl (Nat.le_of_ble_eq_true rfl) dX6_setRequired_10 (fun H locs hH hS => ?_)
  refine lv_astore (lv' := [(5, .ref (ga g [7, p, j])), (4, .ref (ga g [5, p])), (0, .ref (ga g [0])), (1, .int (nI p)), (2, .int (nI j)), (3, .int v)]) hx hb dX6_setRequired_13 hl (by decide) rfl (fun ls hl => ?_)
  refine lv_aload hx hb dX6_setRequired_15 (lv_at hl 0 rfl) ?_
  refine x_S0 hx hb hml hown hE hS hl.1 cyX6_refuseOtherThanTask tw447 (c_X6_refuseOtherThanTask l g h I n p j hpp hj hk) ⟨Nat.le_of_ble_eq_true rfl, Nat.le_of_ble_eq_true rfl⟩ ⟨Nat.le_of_ble_eq_true rfl, Nat.le_of_ble_eq_true rfl⟩ hH rfl rfl (Nat.le_of_ble_eq_true rfl) dX6_setRequired_17 (fun H locs hH hS => ?_)
  refine lv_aload hx hb dX6_setRequired_20 (lv_at hl 1 rfl) ?_
  exact x_outT (x_ST hx hb hml hown hE hS hl.1 cyX6_refuseUsed tw296 (t_X6_refuseUsed l hst g h I n p hpp hu) ⟨Nat.le_of_ble_eq_true rfl, Nat.le_of_ble_eq_true rfl⟩ ⟨Nat.le_of_ble_eq_true rfl, Nat.le_of_ble_eq_true rfl⟩ hH rfl rfl (Nat.le_of_ble_eq_true rfl) dX6_setRequired_22) hS hout hlocks (fun _ hq => hq) (Nat.le_of_ble_eq_true rfl) (Nat.le_of_ble_eq_true rfl)

set_option maxHeartbeats 1000000 in
set_option maxRecDepth 100000 in
theorem t_X6_setLimit_l (l : Launch) (hst : l.stackTraces = false) (g : xG) (h : xS) (I : xI) (n : Nat) (hW : xWs0 h I) (p : Nat) (hpp : p < sNp h) (j : Nat) (hj : j < sSz h p) (v : Int32) (hv : v < 1) : xTc l yX6_setLimit (xws yX6_setLimit cX6_setLimit 7 (some FieldType.int)) 6 90 g [.ref (ga g [0]), .int (nI p), .int (nI j), .int v] (xR g (xD h) I (xFh h) n) eIA (xG_ g (xD h) I (xFh h) n) 1 6 := by
  refine xTc.of (by decide) (Nat.le_of_ble_eq_true rfl) ?_
  intro P_ e_ s m_ bl_ mt_ cd_ ls hx hb hr hown hlocks hml hout hE hK hts hH hS hl
  have hl : lv_has ls 7 [(0, .ref (ga g [0])), (1, .int (nI p)), (2, .int (nI j)), (3, .int v)] := hl
  have h3 := hW.1
  have hWp := hW.2.2 _ hpp
  have h8 := hWp.1
  refine lv_aload_n hx hb dX6_setLimit_0 rfl (lv_at hl 0 rfl) ?_
  refine lv_iload_n hx hb dX6_setLimit_1 rfl (lv_at hl 1 rfl) ?_
  refine x_V1 hx hb hml hown hE hS hl.1 cyX6_existingPlan tw247 (c_X6_existingPlan l g h I n p hpp h3 hW.2.1) ⟨Nat.le_of_ble_eq_true rfl, Nat.le_of_ble_eq_true rfl⟩ ⟨Nat.le_of_ble_eq_true rfl, Nat.le_of_ble_eq_true rfl⟩ (x_recv hK hH (id := [0]) (by first | trivial | (simp only [xD]; omega) | (simp [xD]; done) | (simp [xD]; omega)) (ci := 6) rfl (by decide) rfl) hH rfl rfl (Nat.le_of_ble_eq_true rfl) dX6_setLimit_2 (fun H locs hH hS => ?_)
  refine lv_astore (lv' := [(4, .ref (ga g [5, p])), (0, .ref (ga g [0])), (1, .int (nI p)), (2, .int (nI j)), (3, .int v)]) hx hb dX6_setLimit_5 hl (by decide) rfl (fun ls hl => ?_)
  refine lv_aload hx hb dX6_setLimit_7 (lv_at hl 0 rfl) ?_
  refine lv_iload_n hx hb dX6_setLimit_9 rfl (lv_at hl 3 rfl) ?_
  refine x_S1 hx hb hml hown hE hS hl.1 cyX6_existingStep tw372 (c_X6_existingStep l g h I n p j hpp hj h8 hWp.2.2.1) ⟨Nat.le_of_ble_eq_true rfl, Nat.le_of_ble_eq_true rfl⟩ ⟨Nat.le_of_ble_eq_true rfl, Nat.le_of_ble_eq_true rfl⟩ hH rfl rfl (Nat.le_of_ble_eq_true rfl) dX6_setLimit_10 (fun H locs hH hS => ?_)
  refine lv_astore (lv' := [(5, .ref (ga g [7, p, j])), (4, .ref (ga g [5, p])), (0, .ref (ga g [0])), (1, .int (nI p)), (2, .int (nI j)), (3, .int v)]) hx hb dX6_setLimit_13 hl (by decide) rfl (fun ls hl => ?_)
  refine lv_iload_n hx hb dX6_setLimit_15 rfl (lv_at hl 5 rfl) ?_
  refine lv_iconst (v := 1) hx hb dX6_setLimit_16 (by decide) ?_
  refine lv_icmp_lt (tgt := 26) hx hb dX6_setLimit_17 (by decide) (fun _ => ?_) (fun q_ => absurd hv q_)
  exact x_thr (text := "the limit is not between 1 and 99") hx hb hst hown hE hS hH (hl.1.trans hml.symm) thIA (List.mem_of_getElem? (i := 11) rfl) dX6_setLimit_26 dX6_setLimit_29 dX6_setLimit_30 dX6_setLimit_32 dX6_setLimit_35 hout hlocks (Nat.le_of_ble_eq_true rfl) (Nat.le_of_ble_eq_true rfl) (Nat.le_of_ble_eq_true rfl) (Nat.le_of_ble_eq_true rfl) (Nat.le_of_ble_eq_true rfl) (Nat.le_of_ble_eq_true rfl) (fun _ hq => hq)

set_option maxHeartbeats 1000000 in
set_option maxRecDepth 100000 in
theorem t_X6_setLimit_h (l : Launch) (hst : l.stackTraces = false) (g : xG) (h : xS) (I : xI) (n : Nat) (hW : xWs0 h I) (p : Nat) (hpp : p < sNp h) (j : Nat) (hj : j < sSz h p) (v : Int32) (hv1 : ¬ v < 1) (hv2 : 99 < v) : xTc l yX6_setLimit (xws yX6_setLimit cX6_setLimit 7 (some FieldType.int)) 6 90 g [.ref (ga g [0]), .int (nI p), .int (nI j), .int v] (xR g (xD h) I (xFh h) n) eIA (xG_ g (xD h) I (xFh h) n) 1 6 := by
  refine xTc.of (by decide) (Nat.le_of_ble_eq_true rfl) ?_
  intro P_ e_ s m_ bl_ mt_ cd_ ls hx hb hr hown hlocks hml hout hE hK hts hH hS hl
  have hl : lv_has ls 7 [(0, .ref (ga g [0])), (1, .int (nI p)), (2, .int (nI j)), (3, .int v)] := hl
  have h3 := hW.1
  have hWp := hW.2.2 _ hpp
  have h8 := hWp.1
  refine lv_aload_n hx hb dX6_setLimit_0 rfl (lv_at hl 0 rfl) ?_
  refine lv_iload_n hx hb dX6_setLimit_1 rfl (lv_at hl 1 rfl) ?_
  refine x_V1 hx hb hml hown hE hS hl.1 cyX6_existingPlan tw247 (c_X6_existingPlan l g h I n p hpp h3 hW.2.1) ⟨Nat.le_of_ble_eq_true rfl, Nat.le_of_ble_eq_true rfl⟩ ⟨Nat.le_of_ble_eq_true rfl, Nat.le_of_ble_eq_true rfl⟩ (x_recv hK hH (id := [0]) (by first | trivial | (simp only [xD]; omega) | (simp [xD]; done) | (simp [xD]; omega)) (ci := 6) rfl (by decide) rfl) hH rfl rfl (Nat.le_of_ble_eq_true rfl) dX6_setLimit_2 (fun H locs hH hS => ?_)
  refine lv_astore (lv' := [(4, .ref (ga g [5, p])), (0, .ref (ga g [0])), (1, .int (nI p)), (2, .int (nI j)), (3, .int v)]) hx hb dX6_setLimit_5 hl (by decide) rfl (fun ls hl => ?_)
  refine lv_aload hx hb dX6_setLimit_7 (lv_at hl 0 rfl) ?_
  refine lv_iload_n hx hb dX6_setLimit_9 rfl (lv_at hl 3 rfl) ?_
  refine x_S1 hx hb hml hown hE hS hl.1 cyX6_existingStep tw372 (c_X6_existingStep l g h I n p j hpp hj h8 hWp.2.2.1) ⟨Nat.le_of_ble_eq_true rfl, Nat.le_of_ble_eq_true rfl⟩ ⟨Nat.le_of_ble_eq_true rfl, Nat.le_of_ble_eq_true rfl⟩ hH rfl rfl (Nat.le_of_ble_eq_true rfl) dX6_setLimit_10 (fun H locs hH hS => ?_)
  refine lv_astore (lv' := [(5, .ref (ga g [7, p, j])), (4, .ref (ga g [5, p])), (0, .ref (ga g [0])), (1, .int (nI p)), (2, .int (nI j)), (3, .int v)]) hx hb dX6_setLimit_13 hl (by decide) rfl (fun ls hl => ?_)
  refine lv_iload_n hx hb dX6_setLimit_15 rfl (lv_at hl 5 rfl) ?_
  refine lv_iconst (v := 1) hx hb dX6_setLimit_16 (by decide) ?_
  refine lv_icmp_lt (tgt := 26) hx hb dX6_setLimit_17 (by decide) (fun q_ => absurd q_ hv1) (fun _ => ?_)
  refine lv_iload_n hx hb dX6_setLimit_20 rfl (lv_at hl 5 rfl) ?_
  refine lv_bipush (v := 99) hx hb dX6_setLimit_21 (by decide) ?_
  refine lv_icmp_le (tgt := 36) hx hb dX6_setLimit_23 (by decide) (fun q_ => absurd q_ (i_lt_nle hv2)) (fun _ => ?_)
  exact x_thr (text := "the limit is not between 1 and 99") hx hb hst hown hE hS hH (hl.1.trans hml.symm) thIA (List.mem_of_getElem? (i := 11) rfl) dX6_setLimit_26 dX6_setLimit_29 dX6_setLimit_30 dX6_setLimit_32 dX6_setLimit_35 hout hlocks (Nat.le_of_ble_eq_true rfl) (Nat.le_of_ble_eq_true rfl) (Nat.le_of_ble_eq_true rfl) (Nat.le_of_ble_eq_true rfl) (Nat.le_of_ble_eq_true rfl) (Nat.le_of_ble_eq_true rfl) (fun _ hq => hq)

set_option maxHeartbeats 1000000 in
set_option maxRecDepth 100000 in
theorem t_X6_setLimit_k (l : Launch) (hst : l.stackTraces = false) (g : xG) (h : xS) (I : xI) (n : Nat) (hW : xWs0 h I) (p : Nat) (hpp : p < sNp h) (j : Nat) (hj : j < sSz h p) (v : Int32) (hv1 : ¬ v < 1) (hv2 : ¬ 99 < v) (hk : ¬ I [7, p, j] 0 = 116)  : xTc l yX6_setLimit (xws yX6_setLimit cX6_setLimit 7 (some FieldType.int)) 7 110 g [.ref (ga g [0]), .int (nI p), .int (nI j), .int v] (xR g (xD h) I (xFh h) n) eUO (xG_ g (xD h) I (xFh h) n) 1 6 := by
  refine xTc.of (by decide) (Nat.le_of_ble_eq_true rfl) ?_
  intro P_ e_ s m_ bl_ mt_ cd_ ls hx hb hr hown hlocks hml hout hE hK hts hH hS hl
  have hl : lv_has ls 7 [(0, .ref (ga g [0])), (1, .int (nI p)), (2, .int (nI j)), (3, .int v)] := hl
  have h3 := hW.1
  have hWp := hW.2.2 _ hpp
  have h8 := hWp.1
  refine lv_aload_n hx hb dX6_setLimit_0 rfl (lv_at hl 0 rfl) ?_
  refine lv_iload_n hx hb dX6_setLimit_1 rfl (lv_at hl 1 rfl) ?_
  refine x_V1 hx hb hml hown hE hS hl.1 cyX6_existingPlan tw247 (c_X6_existingPlan l g h I n p hpp h3 hW.2.1) ⟨Nat.le_of_ble_eq_true rfl, Nat.le_of_ble_eq_true rfl⟩ ⟨Nat.le_of_ble_eq_true rfl, Nat.le_of_ble_eq_true rfl⟩ (x_recv hK hH (id := [0]) (by first | trivial | (simp only [xD]; omega) | (simp [xD]; done) | (simp [xD]; omega)) (ci := 6) rfl (by decide) rfl) hH rfl rfl (Nat.le_of_ble_eq_true rfl) dX6_setLimit_2 (fun H locs hH hS => ?_)
  refine lv_astore (lv' := [(4, .ref (ga g [5, p])), (0, .ref (ga g [0])), (1, .int (nI p)), (2, .int (nI j)), (3, .int v)]) hx hb dX6_setLimit_5 hl (by decide) rfl (fun ls hl => ?_)
  refine lv_aload hx hb dX6_setLimit_7 (lv_at hl 0 rfl) ?_
  refine lv_iload_n hx hb dX6_setLimit_9 rfl (lv_at hl 3 rfl) ?_
  refine x_S1 hx hb hml hown hE hS hl.1 cyX6_existingStep tw372 (c_X6_existingStep l g h I n p j hpp hj h8 hWp.2.2.1) ⟨Nat.le_of_ble_eq_true rfl, Nat.le_of_ble_eq_true rfl⟩ ⟨Nat.le_of_ble_eq_true rfl, Nat.le_of_ble_eq_true rfl⟩ hH rfl rfl (Nat.le_of_ble_eq_true rfl) dX6_setLimit_10 (fun H locs hH hS => ?_)
  refine lv_astore (lv' := [(5, .ref (ga g [7, p, j])), (4, .ref (ga g [5, p])), (0, .ref (ga g [0])), (1, .int (nI p)), (2, .int (nI j)), (3, .int v)]) hx hb dX6_setLimit_13 hl (by decide) rfl (fun ls hl => ?_)
  refine lv_iload_n hx hb dX6_setLimit_15 rfl (lv_at hl 5 rfl) ?_
  refine lv_iconst (v := 1) hx hb dX6_setLimit_16 (by decide) ?_
  refine lv_icmp_lt (tgt := 26) hx hb dX6_setLimit_17 (by decide) (fun q_ => absurd q_ hv1) (fun _ => ?_)
  refine lv_iload_n hx hb dX6_setLimit_20 rfl (lv_at hl 5 rfl) ?_
  refine lv_bipush (v := 99) hx hb dX6_setLimit_21 (by decide) ?_
  refine lv_icmp_le (tgt := 36) hx hb dX6_setLimit_23 (by decide) (fun _ => ?_) (fun q_ => absurd (Int32.not_lt.mp hv2) q_)
  refine lv_aload hx hb dX6_setLimit_36 (lv_at hl 0 rfl) ?_
  exact x_outT (x_ST hx hb hml hown hE hS hl.1 cyX6_refuseOtherThanTask tw447 (t_X6_refuseOtherThanTask l hst g h I n p j hpp hj hk) ⟨Nat.le_of_ble_eq_true rfl, Nat.le_of_ble_eq_true rfl⟩ ⟨Nat.le_of_ble_eq_true rfl, Nat.le_of_ble_eq_true rfl⟩ hH rfl rfl (Nat.le_of_ble_eq_true rfl) dX6_setLimit_38) hS hout hlocks (fun _ hq => hq) (Nat.le_of_ble_eq_true rfl) (Nat.le_of_ble_eq_true rfl)

set_option maxHeartbeats 1000000 in
set_option maxRecDepth 100000 in
theorem t_X6_setLimit_u (l : Launch) (hst : l.stackTraces = false) (g : xG) (h : xS) (I : xI) (n : Nat) (hW : xWs0 h I) (p : Nat) (hpp : p < sNp h) (j : Nat) (hj : j < sSz h p) (v : Int32) (hv1 : ¬ v < 1) (hv2 : ¬ 99 < v) (hk : I [7, p, j] 0 = 116) (hu : ¬ I [5, p] 3 = 0)  : xTc l yX6_setLimit (xws yX6_setLimit cX6_setLimit 7 (some FieldType.int)) 7 110 g [.ref (ga g [0]), .int (nI p), .int (nI j), .int v] (xR g (xD h) I (xFh h) n) eIS (xG_ g (xD h) I (xFh h) n) 1 6 := by
  refine xTc.of (by decide) (Nat.le_of_ble_eq_true rfl) ?_
  intro P_ e_ s m_ bl_ mt_ cd_ ls hx hb hr hown hlocks hml hout hE hK hts hH hS hl
  have hl : lv_has ls 7 [(0, .ref (ga g [0])), (1, .int (nI p)), (2, .int (nI j)), (3, .int v)] := hl
  have h3 := hW.1
  have hWp := hW.2.2 _ hpp
  have h8 := hWp.1
  refine lv_aload_n hx hb dX6_setLimit_0 rfl (lv_at hl 0 rfl) ?_
  refine lv_iload_n hx hb dX6_setLimit_1 rfl (lv_at hl 1 rfl) ?_
  refine x_V1 hx hb hml hown hE hS hl.1 cyX6_existingPlan tw247 (c_X6_existingPlan l g h I n p hpp h3 hW.2.1) ⟨Nat.le_of_ble_eq_true rfl, Nat.le_of_ble_eq_true rfl⟩ ⟨Nat.le_of_ble_eq_true rfl, Nat.le_of_ble_eq_true rfl⟩ (x_recv hK hH (id := [0]) (by first | trivial | (simp only [xD]; omega) | (simp [xD]; done) | (simp [xD]; omega)) (ci := 6) rfl (by decide) rfl) hH rfl rfl (Nat.le_of_ble_eq_true rfl) dX6_setLimit_2 (fun H locs hH hS => ?_)
  refine lv_astore (lv' := [(4, .ref (ga g [5, p])), (0, .ref (ga g [0])), (1, .int (nI p)), (2, .int (nI j)), (3, .int v)]) hx hb dX6_setLimit_5 hl (by decide) rfl (fun ls hl => ?_)
  refine lv_aload hx hb dX6_setLimit_7 (lv_at hl 0 rfl) ?_
  refine lv_iload_n hx hb dX6_setLimit_9 rfl (lv_at hl 3 rfl) ?_
  refine x_S1 hx hb hml hown hE hS hl.1 cyX6_existingStep tw372 (c_X6_existingStep l g h I n p j hpp hj h8 hWp.2.2.1) ⟨Nat.le_of_ble_eq_true rfl, Nat.le_of_ble_eq_true rfl⟩ ⟨Nat.le_of_ble_eq_true rfl, Nat.le_of_ble_eq_true rfl⟩ hH rfl rfl (Nat.le_of_ble_eq_true rfl) dX6_setLimit_10 (fun H locs hH hS => ?_)
  refine lv_astore (lv' := [(5, .ref (ga g [7, p, j])), (4, .ref (ga g [5, p])), (0, .ref (ga g [0])), (1, .int (nI p)), (2, .int (nI j)), (3, .int v)]) hx hb dX6_setLimit_13 hl (by decide) rfl (fun ls hl => ?_)
  refine lv_iload_n hx hb dX6_setLimit_15 rfl (lv_at hl 5 rfl) ?_
  refine lv_iconst (v := 1) hx hb dX6_setLimit_16 (by decide) ?_
  refine lv_icmp_lt (tgt := 26) hx hb dX6_setLimit_17 (by decide) (fun q_ => absurd q_ hv1) (fun _ => ?_)
  refine lv_iload_n hx hb dX6_setLimit_20 rfl (lv_at hl 5 rfl) ?_
  refine lv_bipush (v := 99) hx hb dX6_setLimit_21 (by decide) ?_
  refine lv_icmp_le (tgt := 36) hx hb dX6_setLimit_23 (by decide) (fun _ => ?_) (fun q_ => absurd (Int32.not_lt.mp hv2) q_)
  refine lv_aload hx hb dX6_setLimit_36 (lv_at hl 0 rfl) ?_
  refine x_S0 hx hb hml hown hE hS hl.1 cyX6_refuseOtherThanTask tw447 (c_X6_refuseOtherThanTask l g h I n p j hpp hj hk) ⟨Nat.le_of_ble_eq_true rfl, Nat.le_of_ble_eq_true rfl⟩ ⟨Nat.le_of_ble_eq_true rfl, Nat.le_of_ble_eq_true rfl⟩ hH rfl rfl (Nat.le_of_ble_eq_true rfl) dX6_setLimit_38 (fun H locs hH hS => ?_)
  refine lv_aload hx hb dX6_setLimit_41 (lv_at hl 1 rfl) ?_
  exact x_outT (x_ST hx hb hml hown hE hS hl.1 cyX6_refuseUsed tw296 (t_X6_refuseUsed l hst g h I n p hpp hu) ⟨Nat.le_of_ble_eq_true rfl, Nat.le_of_ble_eq_true rfl⟩ ⟨Nat.le_of_ble_eq_true rfl, Nat.le_of_ble_eq_true rfl⟩ hH rfl rfl (Nat.le_of_ble_eq_true rfl) dX6_setLimit_43) hS hout hlocks (fun _ hq => hq) (Nat.le_of_ble_eq_true rfl) (Nat.le_of_ble_eq_true rfl)

set_option maxHeartbeats 1000000 in
set_option maxRecDepth 100000 in
theorem t_X6_setAgain_k (l : Launch) (hst : l.stackTraces = false) (g : xG) (h : xS) (I : xI) (n : Nat) (hW : xWs0 h I) (p : Nat) (hpp : p < sNp h) (j : Nat) (hj : j < sSz h p) (v : Int32) (hk : ¬ I [7, p, j] 0 = 109) : xTc l yX6_setAgain (xws yX6_setAgain cX6_setAgain 7 (some FieldType.boolean)) 6 90 g [.ref (ga g [0]), .int (nI p), .int (nI j), .int v] (xR g (xD h) I (xFh h) n) eUO (xG_ g (xD h) I (xFh h) n) 1 6 := by
  refine xTc.of (by decide) (Nat.le_of_ble_eq_true rfl) ?_
  intro P_ e_ s m_ bl_ mt_ cd_ ls hx hb hr hown hlocks hml hout hE hK hts hH hS hl
  have hl : lv_has ls 7 [(0, .ref (ga g [0])), (1, .int (nI p)), (2, .int (nI j)), (3, .int v)] := hl
  have h3 := hW.1
  have hWp := hW.2.2 _ hpp
  have h8 := hWp.1
  refine lv_aload_n hx hb dX6_setAgain_0 rfl (lv_at hl 0 rfl) ?_
  refine lv_iload_n hx hb dX6_setAgain_1 rfl (lv_at hl 1 rfl) ?_
  refine x_V1 hx hb hml hown hE hS hl.1 cyX6_existingPlan tw247 (c_X6_existingPlan l g h I n p hpp h3 hW.2.1) ⟨Nat.le_of_ble_eq_true rfl, Nat.le_of_ble_eq_true rfl⟩ ⟨Nat.le_of_ble_eq_true rfl, Nat.le_of_ble_eq_true rfl⟩ (x_recv hK hH (id := [0]) (by first | trivial | (simp only [xD]; omega) | (simp [xD]; done) | (simp [xD]; omega)) (ci := 6) rfl (by decide) rfl) hH rfl rfl (Nat.le_of_ble_eq_true rfl) dX6_setAgain_2 (fun H locs hH hS => ?_)
  refine lv_astore (lv' := [(4, .ref (ga g [5, p])), (0, .ref (ga g [0])), (1, .int (nI p)), (2, .int (nI j)), (3, .int v)]) hx hb dX6_setAgain_5 hl (by decide) rfl (fun ls hl => ?_)
  refine lv_aload hx hb dX6_setAgain_7 (lv_at hl 0 rfl) ?_
  refine lv_iload_n hx hb dX6_setAgain_9 rfl (lv_at hl 3 rfl) ?_
  refine x_S1 hx hb hml hown hE hS hl.1 cyX6_existingStep tw372 (c_X6_existingStep l g h I n p j hpp hj h8 hWp.2.2.1) ⟨Nat.le_of_ble_eq_true rfl, Nat.le_of_ble_eq_true rfl⟩ ⟨Nat.le_of_ble_eq_true rfl, Nat.le_of_ble_eq_true rfl⟩ hH rfl rfl (Nat.le_of_ble_eq_true rfl) dX6_setAgain_10 (fun H locs hH hS => ?_)
  refine lv_astore (lv' := [(5, .ref (ga g [7, p, j])), (4, .ref (ga g [5, p])), (0, .ref (ga g [0])), (1, .int (nI p)), (2, .int (nI j)), (3, .int v)]) hx hb dX6_setAgain_13 hl (by decide) rfl (fun ls hl => ?_)
  refine lv_aload hx hb dX6_setAgain_15 (lv_at hl 0 rfl) ?_
  refine x_get (C := RX5) (T := TX5) (N := 7) (ci := 5) hx hb hts iu5 hown hK hH (id := [7, p, j]) (by first | trivial | (simp only [xD]; omega) | (simp [xD]; done) | (simp [xD]; omega)) rfl rfl (by decide) 0 (by decide) (hts _ tw326) (fun _ h9 => h9) rfl (v := .int (I [7, p, j] 0)) rfl dX6_setAgain_17 ?_
  refine lv_bipush (v := 109) hx hb dX6_setAgain_20 (by decide) ?_
  refine lv_icmp_eq (tgt := 35) hx hb dX6_setAgain_22 (by decide) (fun q_ => absurd q_ hk) (fun _ => ?_)
  exact x_thr (text := "the step is not a milestone") hx hb hst hown hE hS hH (hl.1.trans hml.symm) thUO (List.mem_of_getElem? (i := 12) rfl) dX6_setAgain_25 dX6_setAgain_28 dX6_setAgain_29 dX6_setAgain_31 dX6_setAgain_34 hout hlocks (Nat.le_of_ble_eq_true rfl) (Nat.le_of_ble_eq_true rfl) (Nat.le_of_ble_eq_true rfl) (Nat.le_of_ble_eq_true rfl) (Nat.le_of_ble_eq_true rfl) (Nat.le_of_ble_eq_true rfl) (fun _ hq => hq)

set_option maxHeartbeats 1000000 in
set_option maxRecDepth 100000 in
theorem t_X6_setAgain_u (l : Launch) (hst : l.stackTraces = false) (g : xG) (h : xS) (I : xI) (n : Nat) (hW : xWs0 h I) (p : Nat) (hpp : p < sNp h) (j : Nat) (hj : j < sSz h p) (v : Int32) (hk : I [7, p, j] 0 = 109) (hu : ¬ I [5, p] 3 = 0)  : xTc l yX6_setAgain (xws yX6_setAgain cX6_setAgain 7 (some FieldType.boolean)) 7 110 g [.ref (ga g [0]), .int (nI p), .int (nI j), .int v] (xR g (xD h) I (xFh h) n) eIS (xG_ g (xD h) I (xFh h) n) 1 6 := by
  refine xTc.of (by decide) (Nat.le_of_ble_eq_true rfl) ?_
  intro P_ e_ s m_ bl_ mt_ cd_ ls hx hb hr hown hlocks hml hout hE hK hts hH hS hl
  have hl : lv_has ls 7 [(0, .ref (ga g [0])), (1, .int (nI p)), (2, .int (nI j)), (3, .int v)] := hl
  have h3 := hW.1
  have hWp := hW.2.2 _ hpp
  have h8 := hWp.1
  refine lv_aload_n hx hb dX6_setAgain_0 rfl (lv_at hl 0 rfl) ?_
  refine lv_iload_n hx hb dX6_setAgain_1 rfl (lv_at hl 1 rfl) ?_
  refine x_V1 hx hb hml hown hE hS hl.1 cyX6_existingPlan tw247 (c_X6_existingPlan l g h I n p hpp h3 hW.2.1) ⟨Nat.le_of_ble_eq_true rfl, Nat.le_of_ble_eq_true rfl⟩ ⟨Nat.le_of_ble_eq_true rfl, Nat.le_of_ble_eq_true rfl⟩ (x_recv hK hH (id := [0]) (by first | trivial | (simp only [xD]; omega) | (simp [xD]; done) | (simp [xD]; omega)) (ci := 6) rfl (by decide) rfl) hH rfl rfl (Nat.le_of_ble_eq_true rfl) dX6_setAgain_2 (fun H locs hH hS => ?_)
  refine lv_astore (lv' := [(4, .ref (ga g [5, p])), (0, .ref (ga g [0])), (1, .int (nI p)), (2, .int (nI j)), (3, .int v)]) hx hb dX6_setAgain_5 hl (by decide) rfl (fun ls hl => ?_)
  refine lv_aload hx hb dX6_setAgain_7 (lv_at hl 0 rfl) ?_
  refine lv_iload_n hx hb dX6_setAgain_9 rfl (lv_at hl 3 rfl) ?_
  refine x_S1 hx hb hml hown hE hS hl.1 cyX6_existingStep tw372 (c_X6_existingStep l g h I n p j hpp hj h8 hWp.2.2.1) ⟨Nat.le_of_ble_eq_true rfl, Nat.le_of_ble_eq_true rfl⟩ ⟨Nat.le_of_ble_eq_true rfl, Nat.le_of_ble_eq_true rfl⟩ hH rfl rfl (Nat.le_of_ble_eq_true rfl) dX6_setAgain_10 (fun H locs hH hS => ?_)
  refine lv_astore (lv' := [(5, .ref (ga g [7, p, j])), (4, .ref (ga g [5, p])), (0, .ref (ga g [0])), (1, .int (nI p)), (2, .int (nI j)), (3, .int v)]) hx hb dX6_setAgain_13 hl (by decide) rfl (fun ls hl => ?_)
  refine lv_aload hx hb dX6_setAgain_15 (lv_at hl 0 rfl) ?_
  refine x_get (C := RX5) (T := TX5) (N := 7) (ci := 5) hx hb hts iu5 hown hK hH (id := [7, p, j]) (by first | trivial | (simp only [xD]; omega) | (simp [xD]; done) | (simp [xD]; omega)) rfl rfl (by decide) 0 (by decide) (hts _ tw326) (fun _ h9 => h9) rfl (v := .int (I [7, p, j] 0)) rfl dX6_setAgain_17 ?_
  refine lv_bipush (v := 109) hx hb dX6_setAgain_20 (by decide) ?_
  refine lv_icmp_eq (tgt := 35) hx hb dX6_setAgain_22 (by decide) (fun _ => ?_) (fun q_ => absurd hk q_)
  refine lv_aload hx hb dX6_setAgain_35 (lv_at hl 1 rfl) ?_
  exact x_outT (x_ST hx hb hml hown hE hS hl.1 cyX6_refuseUsed tw296 (t_X6_refuseUsed l hst g h I n p hpp hu) ⟨Nat.le_of_ble_eq_true rfl, Nat.le_of_ble_eq_true rfl⟩ ⟨Nat.le_of_ble_eq_true rfl, Nat.le_of_ble_eq_true rfl⟩ hH rfl rfl (Nat.le_of_ble_eq_true rfl) dX6_setAgain_37) hS hout hlocks (fun _ hq => hq) (Nat.le_of_ble_eq_true rfl) (Nat.le_of_ble_eq_true rfl)

set_option maxHeartbeats 1000000 in
set_option maxRecDepth 100000 in
theorem t_X6_begin_e (l : Launch) (hst : l.stackTraces = false) (g : xG) (h : xS) (I : xI) (n : Nat) (hW : xWs0 h I) (hC : xWc h I) (p : Nat) (hpp : p < sNp h) (he : sSz h p = 0) : xTc l yX6_begin (xws yX6_begin cX6_begin 5 (some FieldType.int)) 6 90 g [.ref (ga g [0]), .int (nI p)] (xR g (xD h) I (xFh h) n) eIS (xG_ g (xD h) I (xFh h) n) 1 6 := by
  refine xTc.of (by decide) (Nat.le_of_ble_eq_true rfl) ?_
  intro P_ e_ s m_ bl_ mt_ cd_ ls hx hb hr hown hlocks hml hout hE hK hts hH hS hl
  have hl : lv_has ls 5 [(0, .ref (ga g [0])), (1, .int (nI p))] := hl
  have h3 := hW.1
  have hWp := hW.2.2 _ hpp
  have h8 := hWp.1
  refine lv_aload_n hx hb dX6_begin_0 rfl (lv_at hl 0 rfl) ?_
  refine lv_iload_n hx hb dX6_begin_1 rfl (lv_at hl 1 rfl) ?_
  refine x_V1 hx hb hml hown hE hS hl.1 cyX6_existingPlan tw247 (c_X6_existingPlan l g h I n p hpp h3 hW.2.1) ⟨Nat.le_of_ble_eq_true rfl, Nat.le_of_ble_eq_true rfl⟩ ⟨Nat.le_of_ble_eq_true rfl, Nat.le_of_ble_eq_true rfl⟩ (x_recv hK hH (id := [0]) (by first | trivial | (simp only [xD]; omega) | (simp [xD]; done) | (simp [xD]; omega)) (ci := 6) rfl (by decide) rfl) hH rfl rfl (Nat.le_of_ble_eq_true rfl) dX6_begin_2 (fun H locs hH hS => ?_)
  refine lv_astore_n (lv' := [(2, .ref (ga g [5, p])), (0, .ref (ga g [0])), (1, .int (nI p))]) hx hb dX6_begin_5 rfl hl (by decide) rfl (fun ls hl => ?_)
  refine lv_aload_n hx hb dX6_begin_6 rfl (lv_at hl 0 rfl) ?_
  refine x_get (C := RX4) (T := TX4) (N := 4) (ci := 4) hx hb hts iu4 hown hK hH (id := [5, p]) (by first | trivial | (simp only [xD]; omega) | (simp [xD]; done) | (simp [xD]; omega)) rfl rfl (by decide) 2 (by decide) (hts _ tw73) (fun _ h9 => h9) rfl (v := .int (nI (sSz h p))) (congrArg Value.int hWp.2.2.1) dX6_begin_7 ?_
  refine lv_if_ne (tgt := 23) hx hb dX6_begin_10 (by decide) (fun q_ => absurd q_ (fun z_ => z_ ((nI_eq (a := (sSz h p)) (b := 0) (by omega) (by omega)).mpr (by omega)))) (fun _ => ?_)
  exact x_thr (text := "the plan has no steps") hx hb hst hown hE hS hH (hl.1.trans hml.symm) thIS (List.mem_of_getElem? (i := 13) rfl) dX6_begin_13 dX6_begin_16 dX6_begin_17 dX6_begin_19 dX6_begin_22 hout hlocks (Nat.le_of_ble_eq_true rfl) (Nat.le_of_ble_eq_true rfl) (Nat.le_of_ble_eq_true rfl) (Nat.le_of_ble_eq_true rfl) (Nat.le_of_ble_eq_true rfl) (Nat.le_of_ble_eq_true rfl) (fun _ hq => hq)

set_option maxHeartbeats 1000000 in
set_option maxRecDepth 100000 in
theorem t_X6_begin_f (l : Launch) (hst : l.stackTraces = false) (g : xG) (h : xS) (I : xI) (n : Nat) (hW : xWs0 h I) (hC : xWc h I) (p : Nat) (hpp : p < sNp h) (he : 0 < sSz h p) (hf : sNc h = 4) : xTc l yX6_begin (xws yX6_begin cX6_begin 5 (some FieldType.int)) 6 90 g [.ref (ga g [0]), .int (nI p)] (xR g (xD h) I (xFh h) n) eIS (xG_ g (xD h) I (xFh h) n) 1 6 := by
  refine xTc.of (by decide) (Nat.le_of_ble_eq_true rfl) ?_
  intro P_ e_ s m_ bl_ mt_ cd_ ls hx hb hr hown hlocks hml hout hE hK hts hH hS hl
  have hl : lv_has ls 5 [(0, .ref (ga g [0])), (1, .int (nI p))] := hl
  have h3 := hW.1
  have hWp := hW.2.2 _ hpp
  have h8 := hWp.1
  refine lv_aload_n hx hb dX6_begin_0 rfl (lv_at hl 0 rfl) ?_
  refine lv_iload_n hx hb dX6_begin_1 rfl (lv_at hl 1 rfl) ?_
  refine x_V1 hx hb hml hown hE hS hl.1 cyX6_existingPlan tw247 (c_X6_existingPlan l g h I n p hpp h3 hW.2.1) ⟨Nat.le_of_ble_eq_true rfl, Nat.le_of_ble_eq_true rfl⟩ ⟨Nat.le_of_ble_eq_true rfl, Nat.le_of_ble_eq_true rfl⟩ (x_recv hK hH (id := [0]) (by first | trivial | (simp only [xD]; omega) | (simp [xD]; done) | (simp [xD]; omega)) (ci := 6) rfl (by decide) rfl) hH rfl rfl (Nat.le_of_ble_eq_true rfl) dX6_begin_2 (fun H locs hH hS => ?_)
  refine lv_astore_n (lv' := [(2, .ref (ga g [5, p])), (0, .ref (ga g [0])), (1, .int (nI p))]) hx hb dX6_begin_5 rfl hl (by decide) rfl (fun ls hl => ?_)
  refine lv_aload_n hx hb dX6_begin_6 rfl (lv_at hl 0 rfl) ?_
  refine x_get (C := RX4) (T := TX4) (N := 4) (ci := 4) hx hb hts iu4 hown hK hH (id := [5, p]) (by first | trivial | (simp only [xD]; omega) | (simp [xD]; done) | (simp [xD]; omega)) rfl rfl (by decide) 2 (by decide) (hts _ tw73) (fun _ h9 => h9) rfl (v := .int (nI (sSz h p))) (congrArg Value.int hWp.2.2.1) dX6_begin_7 ?_
  refine lv_if_ne (tgt := 23) hx hb dX6_begin_10 (by decide) (fun _ => ?_) (fun q_ => absurd q_ (fun z_ => absurd ((nI_eq (a := (sSz h p)) (b := 0) (by omega) (by omega)).mp z_) (by omega)))
  refine lv_aload_n hx hb dX6_begin_23 rfl (lv_at hl 1 rfl) ?_
  refine x_get (C := RX6) (T := TX6) (N := 6) (ci := 6) hx hb hts iu6 hown hK hH (id := [0]) (by first | trivial | (simp only [xD]; omega) | (simp [xD]; done) | (simp [xD]; omega)) rfl rfl (by decide) 3 (by decide) (hts _ tw134) (fun _ h9 => h9) rfl (v := .int (nI (sNc h))) (congrArg Value.int hC.2.1) dX6_begin_24 ?_
  refine lv_if_lt (tgt := 38) hx hb dX6_begin_27 (by decide) (fun q_ => absurd q_ (fun z_ => absurd ((nI_ltI (a := (sNc h)) (b := 0) (by omega) (by omega)).mp z_) (by omega))) (fun _ => ?_)
  refine lv_aload_n hx hb dX6_begin_30 rfl (lv_at hl 1 rfl) ?_
  refine x_get (C := RX6) (T := TX6) (N := 6) (ci := 6) hx hb hts iu6 hown hK hH (id := [0]) (by first | trivial | (simp only [xD]; omega) | (simp [xD]; done) | (simp [xD]; omega)) rfl rfl (by decide) 3 (by decide) (hts _ tw134) (fun _ h9 => h9) rfl (v := .int (nI (sNc h))) (congrArg Value.int hC.2.1) dX6_begin_31 ?_
  refine lv_iconst (v := 4) hx hb dX6_begin_34 (by decide) ?_
  refine lv_icmp_lt (tgt := 48) hx hb dX6_begin_35 (by decide) (fun q_ => absurd q_ (fun z_ => absurd ((nI_ltI (a := (sNc h)) (b := 4) (by omega) (by omega)).mp z_) (by omega))) (fun _ => ?_)
  exact x_thr (text := "there are 4 cases") hx hb hst hown hE hS hH (hl.1.trans hml.symm) thIS (List.mem_of_getElem? (i := 14) rfl) dX6_begin_38 dX6_begin_41 dX6_begin_42 dX6_begin_44 dX6_begin_47 hout hlocks (Nat.le_of_ble_eq_true rfl) (Nat.le_of_ble_eq_true rfl) (Nat.le_of_ble_eq_true rfl) (Nat.le_of_ble_eq_true rfl) (Nat.le_of_ble_eq_true rfl) (Nat.le_of_ble_eq_true rfl) (fun _ hq => hq)

set_option maxHeartbeats 1000000 in
set_option maxRecDepth 100000 in
theorem t_X6_set_d (l : Launch) (hst : l.stackTraces = false) (g : xG) (h : xS) (I : xI) (n : Nat) (hW : xWs0 h I) (hC : xWc h I) (c : Nat) (hc : c < sNc h) (x y : Int32) (hd : sIn x 0 4 = false) : xTc l yX6_set (xws yX6_set cX6_set 6 (some FieldType.int)) 6 90 g [.ref (ga g [0]), .int (nI c), .int x, .int y] (xR g (xD h) I (xFh h) n) eIA (xG_ g (xD h) I (xFh h) n) 1 6 := by
  refine xTc.of (by decide) (Nat.le_of_ble_eq_true rfl) ?_
  intro P_ e_ s m_ bl_ mt_ cd_ ls hx hb hr hown hlocks hml hout hE hK hts hH hS hl
  have hl : lv_has ls 6 [(0, .ref (ga g [0])), (1, .int (nI c)), (2, .int x), (3, .int y)] := hl
  have hpp := (hC.2.2 c hc).1
  have hch := (hC.2.2 c hc).2
  have hWp := hW.2.2 _ hpp
  have h4 := hC.1
  have h3 := hW.1
  have h8 := hWp.1
  refine lv_aload_n hx hb dX6_set_0 rfl (lv_at hl 0 rfl) ?_
  refine lv_iload_n hx hb dX6_set_1 rfl (lv_at hl 1 rfl) ?_
  refine x_V1 hx hb hml hown hE hS hl.1 cyX6_existingCase tw571 (c_X6_existingCase l g h I n c hc h4 hC.2.1) ⟨Nat.le_of_ble_eq_true rfl, Nat.le_of_ble_eq_true rfl⟩ ⟨Nat.le_of_ble_eq_true rfl, Nat.le_of_ble_eq_true rfl⟩ (x_recv hK hH (id := [0]) (by first | trivial | (simp only [xD]; omega) | (simp [xD]; done) | (simp [xD]; omega)) (ci := 6) rfl (by decide) rfl) hH rfl rfl (Nat.le_of_ble_eq_true rfl) dX6_set_2 (fun H locs hH hS => ?_)
  refine lv_astore (lv' := [(4, .ref (ga g [11, c, 0])), (0, .ref (ga g [0])), (1, .int (nI c)), (2, .int x), (3, .int y)]) hx hb dX6_set_5 hl (by decide) rfl (fun ls hl => ?_)
  refine lv_iload_n hx hb dX6_set_7 rfl (lv_at hl 3 rfl) ?_
  refine x_S1 hx hb hml hown hE hS hl.1 cyX6_isDatum tw383 (c_X6_isDatum l g h I n x) ⟨Nat.le_of_ble_eq_true rfl, Nat.le_of_ble_eq_true rfl⟩ ⟨Nat.le_of_ble_eq_true rfl, Nat.le_of_ble_eq_true rfl⟩ hH rfl rfl (Nat.le_of_ble_eq_true rfl) dX6_set_8 (fun H locs hH hS => ?_)
  refine lv_if_ne (tgt := 24) hx hb dX6_set_11 (by decide) (fun q_ => absurd q_ (fun z_ => z_ (by rw [hd]; rfl))) (fun _ => ?_)
  exact x_thr (text := "no such datum") hx hb hst hown hE hS hH (hl.1.trans hml.symm) thIA (List.mem_of_getElem? (i := 16) rfl) dX6_set_14 dX6_set_17 dX6_set_18 dX6_set_20 dX6_set_23 hout hlocks (Nat.le_of_ble_eq_true rfl) (Nat.le_of_ble_eq_true rfl) (Nat.le_of_ble_eq_true rfl) (Nat.le_of_ble_eq_true rfl) (Nat.le_of_ble_eq_true rfl) (Nat.le_of_ble_eq_true rfl) (fun _ hq => hq)

set_option maxHeartbeats 1000000 in
set_option maxRecDepth 100000 in
theorem t_X6_set_v (l : Launch) (hst : l.stackTraces = false) (g : xG) (h : xS) (I : xI) (n : Nat) (hW : xWs0 h I) (hC : xWc h I) (c : Nat) (hc : c < sNc h) (k : Nat) (hk : k < 4) (y : Int32) (hd : sVl y = false) : xTc l yX6_set (xws yX6_set cX6_set 6 (some FieldType.int)) 6 90 g [.ref (ga g [0]), .int (nI c), .int (nI k), .int y] (xR g (xD h) I (xFh h) n) eIA (xG_ g (xD h) I (xFh h) n) 1 6 := by
  refine xTc.of (by decide) (Nat.le_of_ble_eq_true rfl) ?_
  intro P_ e_ s m_ bl_ mt_ cd_ ls hx hb hr hown hlocks hml hout hE hK hts hH hS hl
  have hl : lv_has ls 6 [(0, .ref (ga g [0])), (1, .int (nI c)), (2, .int (nI k)), (3, .int y)] := hl
  have hpp := (hC.2.2 c hc).1
  have hch := (hC.2.2 c hc).2
  have hWp := hW.2.2 _ hpp
  have h4 := hC.1
  have h3 := hW.1
  have h8 := hWp.1
  refine lv_aload_n hx hb dX6_set_0 rfl (lv_at hl 0 rfl) ?_
  refine lv_iload_n hx hb dX6_set_1 rfl (lv_at hl 1 rfl) ?_
  refine x_V1 hx hb hml hown hE hS hl.1 cyX6_existingCase tw571 (c_X6_existingCase l g h I n c hc h4 hC.2.1) ⟨Nat.le_of_ble_eq_true rfl, Nat.le_of_ble_eq_true rfl⟩ ⟨Nat.le_of_ble_eq_true rfl, Nat.le_of_ble_eq_true rfl⟩ (x_recv hK hH (id := [0]) (by first | trivial | (simp only [xD]; omega) | (simp [xD]; done) | (simp [xD]; omega)) (ci := 6) rfl (by decide) rfl) hH rfl rfl (Nat.le_of_ble_eq_true rfl) dX6_set_2 (fun H locs hH hS => ?_)
  refine lv_astore (lv' := [(4, .ref (ga g [11, c, 0])), (0, .ref (ga g [0])), (1, .int (nI c)), (2, .int (nI k)), (3, .int y)]) hx hb dX6_set_5 hl (by decide) rfl (fun ls hl => ?_)
  refine lv_iload_n hx hb dX6_set_7 rfl (lv_at hl 3 rfl) ?_
  refine x_S1 hx hb hml hown hE hS hl.1 cyX6_isDatum tw383 (c_X6_isDatum l g h I n (nI k)) ⟨Nat.le_of_ble_eq_true rfl, Nat.le_of_ble_eq_true rfl⟩ ⟨Nat.le_of_ble_eq_true rfl, Nat.le_of_ble_eq_true rfl⟩ hH rfl rfl (Nat.le_of_ble_eq_true rfl) dX6_set_8 (fun H locs hH hS => ?_)
  refine lv_if_ne (tgt := 24) hx hb dX6_set_11 (by decide) (fun _ => ?_) (fun q_ => absurd q_ (by rw [show sIn (nI k) 0 4 = true from sIn_nI (N := 4) hk (by omega)]; decide))
  refine lv_iload_n hx hb dX6_set_24 rfl (lv_at hl 4 rfl) ?_
  refine x_S1 hx hb hml hown hE hS hl.1 cyX6_isValue tw386 (c_X6_isValue l g h I n y) ⟨Nat.le_of_ble_eq_true rfl, Nat.le_of_ble_eq_true rfl⟩ ⟨Nat.le_of_ble_eq_true rfl, Nat.le_of_ble_eq_true rfl⟩ hH rfl rfl (Nat.le_of_ble_eq_true rfl) dX6_set_25 (fun H locs hH hS => ?_)
  refine lv_if_ne (tgt := 41) hx hb dX6_set_28 (by decide) (fun q_ => absurd q_ (fun z_ => z_ (by rw [show (!decide (y < -99) && !decide (99 < y)) = false from hd]; rfl))) (fun _ => ?_)
  exact x_thr (text := "the value is not between -99 and 99") hx hb hst hown hE hS hH (hl.1.trans hml.symm) thIA (List.mem_of_getElem? (i := 17) rfl) dX6_set_31 dX6_set_34 dX6_set_35 dX6_set_37 dX6_set_40 hout hlocks (Nat.le_of_ble_eq_true rfl) (Nat.le_of_ble_eq_true rfl) (Nat.le_of_ble_eq_true rfl) (Nat.le_of_ble_eq_true rfl) (Nat.le_of_ble_eq_true rfl) (Nat.le_of_ble_eq_true rfl) (fun _ hq => hq)

set_option maxHeartbeats 1000000 in
set_option maxRecDepth 100000 in
theorem t_X6_event_e (l : Launch) (hst : l.stackTraces = false) (g : xG) (h : xS) (I : xI) (n : Nat) (hW : xWs0 h I) (hC : xWc h I) (c : Nat) (hc : c < sNc h) (x : Int32) (hd : sIn x 0 10 = false) : xTc l yX6_event (xws yX6_event cX6_event 4 (some FieldType.int)) 6 90 g [.ref (ga g [0]), .int (nI c), .int x] (xR g (xD h) I (xFh h) n) eIA (xG_ g (xD h) I (xFh h) n) 1 6 := by
  refine xTc.of (by decide) (Nat.le_of_ble_eq_true rfl) ?_
  intro P_ e_ s m_ bl_ mt_ cd_ ls hx hb hr hown hlocks hml hout hE hK hts hH hS hl
  have hl : lv_has ls 4 [(0, .ref (ga g [0])), (1, .int (nI c)), (2, .int x)] := hl
  have hpp := (hC.2.2 c hc).1
  have hch := (hC.2.2 c hc).2
  have hWp := hW.2.2 _ hpp
  have h4 := hC.1
  have h3 := hW.1
  have h8 := hWp.1
  refine lv_aload_n hx hb dX6_event_0 rfl (lv_at hl 0 rfl) ?_
  refine lv_iload_n hx hb dX6_event_1 rfl (lv_at hl 1 rfl) ?_
  refine x_V1 hx hb hml hown hE hS hl.1 cyX6_existingCase tw571 (c_X6_existingCase l g h I n c hc h4 hC.2.1) ⟨Nat.le_of_ble_eq_true rfl, Nat.le_of_ble_eq_true rfl⟩ ⟨Nat.le_of_ble_eq_true rfl, Nat.le_of_ble_eq_true rfl⟩ (x_recv hK hH (id := [0]) (by first | trivial | (simp only [xD]; omega) | (simp [xD]; done) | (simp [xD]; omega)) (ci := 6) rfl (by decide) rfl) hH rfl rfl (Nat.le_of_ble_eq_true rfl) dX6_event_2 (fun H locs hH hS => ?_)
  refine lv_astore_n (lv' := [(3, .ref (ga g [11, c, 0])), (0, .ref (ga g [0])), (1, .int (nI c)), (2, .int x)]) hx hb dX6_event_5 rfl hl (by decide) rfl (fun ls hl => ?_)
  refine lv_iload_n hx hb dX6_event_6 rfl (lv_at hl 3 rfl) ?_
  refine x_S1 hx hb hml hown hE hS hl.1 cyX6_isEvent tw389 (c_X6_isEvent l g h I n x) ⟨Nat.le_of_ble_eq_true rfl, Nat.le_of_ble_eq_true rfl⟩ ⟨Nat.le_of_ble_eq_true rfl, Nat.le_of_ble_eq_true rfl⟩ hH rfl rfl (Nat.le_of_ble_eq_true rfl) dX6_event_7 (fun H locs hH hS => ?_)
  refine lv_if_ne (tgt := 23) hx hb dX6_event_10 (by decide) (fun q_ => absurd q_ (fun z_ => z_ (by rw [hd]; rfl))) (fun _ => ?_)
  exact x_thr (text := "no such event") hx hb hst hown hE hS hH (hl.1.trans hml.symm) thIA (List.mem_of_getElem? (i := 18) rfl) dX6_event_13 dX6_event_16 dX6_event_17 dX6_event_19 dX6_event_22 hout hlocks (Nat.le_of_ble_eq_true rfl) (Nat.le_of_ble_eq_true rfl) (Nat.le_of_ble_eq_true rfl) (Nat.le_of_ble_eq_true rfl) (Nat.le_of_ble_eq_true rfl) (Nat.le_of_ble_eq_true rfl) (fun _ hq => hq)

set_option maxHeartbeats 1000000 in
set_option maxRecDepth 100000 in
theorem t_X6_datum_d (l : Launch) (hst : l.stackTraces = false) (g : xG) (h : xS) (I : xI) (n : Nat) (hW : xWs0 h I) (hC : xWc h I) (c : Nat) (hc : c < sNc h) (x : Int32) (hd : sIn x 0 4 = false) : xTc l yX6_datum (xws yX6_datum cX6_datum 4 (some FieldType.int)) 6 90 g [.ref (ga g [0]), .int (nI c), .int x] (xR g (xD h) I (xFh h) n) eIA (xG_ g (xD h) I (xFh h) n) 1 6 := by
  refine xTc.of (by decide) (Nat.le_of_ble_eq_true rfl) ?_
  intro P_ e_ s m_ bl_ mt_ cd_ ls hx hb hr hown hlocks hml hout hE hK hts hH hS hl
  have hl : lv_has ls 4 [(0, .ref (ga g [0])), (1, .int (nI c)), (2, .int x)] := hl
  have hpp := (hC.2.2 c hc).1
  have hch := (hC.2.2 c hc).2
  have hWp := hW.2.2 _ hpp
  have h4 := hC.1
  have h3 := hW.1
  have h8 := hWp.1
  refine lv_aload_n hx hb dX6_datum_0 rfl (lv_at hl 0 rfl) ?_
  refine lv_iload_n hx hb dX6_datum_1 rfl (lv_at hl 1 rfl) ?_
  refine x_V1 hx hb hml hown hE hS hl.1 cyX6_existingCase tw571 (c_X6_existingCase l g h I n c hc h4 hC.2.1) ⟨Nat.le_of_ble_eq_true rfl, Nat.le_of_ble_eq_true rfl⟩ ⟨Nat.le_of_ble_eq_true rfl, Nat.le_of_ble_eq_true rfl⟩ (x_recv hK hH (id := [0]) (by first | trivial | (simp only [xD]; omega) | (simp [xD]; done) | (simp [xD]; omega)) (ci := 6) rfl (by decide) rfl) hH rfl rfl (Nat.le_of_ble_eq_true rfl) dX6_datum_2 (fun H locs hH hS => ?_)
  refine lv_astore_n (lv' := [(3, .ref (ga g [11, c, 0])), (0, .ref (ga g [0])), (1, .int (nI c)), (2, .int x)]) hx hb dX6_datum_5 rfl hl (by decide) rfl (fun ls hl => ?_)
  refine lv_iload_n hx hb dX6_datum_6 rfl (lv_at hl 3 rfl) ?_
  refine x_S1 hx hb hml hown hE hS hl.1 cyX6_isDatum tw383 (c_X6_isDatum l g h I n x) ⟨Nat.le_of_ble_eq_true rfl, Nat.le_of_ble_eq_true rfl⟩ ⟨Nat.le_of_ble_eq_true rfl, Nat.le_of_ble_eq_true rfl⟩ hH rfl rfl (Nat.le_of_ble_eq_true rfl) dX6_datum_7 (fun H locs hH hS => ?_)
  refine lv_if_ne (tgt := 23) hx hb dX6_datum_10 (by decide) (fun q_ => absurd q_ (fun z_ => z_ (by rw [hd]; rfl))) (fun _ => ?_)
  exact x_thr (text := "no such datum") hx hb hst hown hE hS hH (hl.1.trans hml.symm) thIA (List.mem_of_getElem? (i := 16) rfl) dX6_datum_13 dX6_datum_16 dX6_datum_17 dX6_datum_19 dX6_datum_22 hout hlocks (Nat.le_of_ble_eq_true rfl) (Nat.le_of_ble_eq_true rfl) (Nat.le_of_ble_eq_true rfl) (Nat.le_of_ble_eq_true rfl) (Nat.le_of_ble_eq_true rfl) (Nat.le_of_ble_eq_true rfl) (fun _ hq => hq)

set_option maxHeartbeats 1000000 in
set_option maxRecDepth 100000 in
theorem t_X6_complete_k (l : Launch) (hst : l.stackTraces = false) (g : xG) (h : xS) (I : xI) (n : Nat) (hW : xWs0 h I) (hC : xWc h I) (c : Nat) (hc : c < sNc h) (j : Nat) (hj : j < sSz h (sPl h c)) (hk : ¬ I [7, sPl h c, j] 0 = 116) : xTc l yX6_complete (xws yX6_complete cX6_complete 4 (some FieldType.int)) 7 110 g [.ref (ga g [0]), .int (nI c), .int (nI j)] (xR g (xD h) I (xFh h) n) eUO (xG_ g (xD h) I (xFh h) n) 1 6 := by
  refine xTc.of (by decide) (Nat.le_of_ble_eq_true rfl) ?_
  intro P_ e_ s m_ bl_ mt_ cd_ ls hx hb hr hown hlocks hml hout hE hK hts hH hS hl
  have hl : lv_has ls 4 [(0, .ref (ga g [0])), (1, .int (nI c)), (2, .int (nI j))] := hl
  have hpp := (hC.2.2 c hc).1
  have hch := (hC.2.2 c hc).2
  have hWp := hW.2.2 _ hpp
  have h4 := hC.1
  have h3 := hW.1
  have h8 := hWp.1
  refine lv_aload_n hx hb dX6_complete_0 rfl (lv_at hl 0 rfl) ?_
  refine lv_iload_n hx hb dX6_complete_1 rfl (lv_at hl 1 rfl) ?_
  refine x_V1 hx hb hml hown hE hS hl.1 cyX6_existingCase tw571 (c_X6_existingCase l g h I n c hc h4 hC.2.1) ⟨Nat.le_of_ble_eq_true rfl, Nat.le_of_ble_eq_true rfl⟩ ⟨Nat.le_of_ble_eq_true rfl, Nat.le_of_ble_eq_true rfl⟩ (x_recv hK hH (id := [0]) (by first | trivial | (simp only [xD]; omega) | (simp [xD]; done) | (simp [xD]; omega)) (ci := 6) rfl (by decide) rfl) hH rfl rfl (Nat.le_of_ble_eq_true rfl) dX6_complete_2 (fun H locs hH hS => ?_)
  refine lv_astore_n (lv' := [(3, .ref (ga g [11, c, 0])), (0, .ref (ga g [0])), (1, .int (nI c)), (2, .int (nI j))]) hx hb dX6_complete_5 rfl hl (by decide) rfl (fun ls hl => ?_)
  refine lv_aload_n hx hb dX6_complete_6 rfl (lv_at hl 0 rfl) ?_
  refine x_get (C := RX0) (T := TX0) (N := 11) (ci := 0) hx hb hts iu0 hown hK hH (id := [11, c, 0]) (by first | trivial | (simp only [xD]; omega) | (simp [xD]; done) | (simp [xD]; omega)) rfl rfl (by decide) 0 (by decide) (hts _ tw91) (fun _ h9 => h9) rfl (v := .ref (ga g [5, sPl h c])) rfl dX6_complete_7 ?_
  refine lv_iload_n hx hb dX6_complete_10 rfl (lv_at hl 3 rfl) ?_
  refine x_S1 hx hb hml hown hE hS hl.1 cyX6_existingStep tw372 (c_X6_existingStep l g h I n (sPl h c) j hpp hj h8 hWp.2.2.1) ⟨Nat.le_of_ble_eq_true rfl, Nat.le_of_ble_eq_true rfl⟩ ⟨Nat.le_of_ble_eq_true rfl, Nat.le_of_ble_eq_true rfl⟩ hH rfl rfl (Nat.le_of_ble_eq_true rfl) dX6_complete_11 (fun H locs hH hS => ?_)
  exact x_outT (x_ST hx hb hml hown hE hS hl.1 cyX6_refuseOtherThanTask tw447 (t_X6_refuseOtherThanTask l hst g h I n (sPl h c) j hpp hj hk) ⟨Nat.le_of_ble_eq_true rfl, Nat.le_of_ble_eq_true rfl⟩ ⟨Nat.le_of_ble_eq_true rfl, Nat.le_of_ble_eq_true rfl⟩ hH rfl rfl (Nat.le_of_ble_eq_true rfl) dX6_complete_14) hS hout hlocks (fun _ hq => hq) (Nat.le_of_ble_eq_true rfl) (Nat.le_of_ble_eq_true rfl)

set_option maxHeartbeats 1000000 in
set_option maxRecDepth 100000 in
theorem t_X6_complete_a (l : Launch) (hst : l.stackTraces = false) (g : xG) (h : xS) (I : xI) (n : Nat) (hW : xWs0 h I) (hC : xWc h I) (c : Nat) (hc : c < sNc h) (j : Nat) (hj : j < sSz h (sPl h c)) (hk : I [7, sPl h c, j] 0 = 116) (ha : ¬ I [11, c, 2] j = 97) : xTc l yX6_complete (xws yX6_complete cX6_complete 4 (some FieldType.int)) 6 90 g [.ref (ga g [0]), .int (nI c), .int (nI j)] (xR g (xD h) I (xFh h) n) eIS (xG_ g (xD h) I (xFh h) n) 1 6 := by
  refine xTc.of (by decide) (Nat.le_of_ble_eq_true rfl) ?_
  intro P_ e_ s m_ bl_ mt_ cd_ ls hx hb hr hown hlocks hml hout hE hK hts hH hS hl
  have hl : lv_has ls 4 [(0, .ref (ga g [0])), (1, .int (nI c)), (2, .int (nI j))] := hl
  have hpp := (hC.2.2 c hc).1
  have hch := (hC.2.2 c hc).2
  have hWp := hW.2.2 _ hpp
  have h4 := hC.1
  have h3 := hW.1
  have h8 := hWp.1
  rw [← sX_get I c] at hH
  refine lv_aload_n hx hb dX6_complete_0 rfl (lv_at hl 0 rfl) ?_
  refine lv_iload_n hx hb dX6_complete_1 rfl (lv_at hl 1 rfl) ?_
  refine x_V1 hx hb hml hown hE hS hl.1 cyX6_existingCase tw571 (c_X6_existingCase l g h (sX I c (gX I c)) n c hc h4 hC.2.1) ⟨Nat.le_of_ble_eq_true rfl, Nat.le_of_ble_eq_true rfl⟩ ⟨Nat.le_of_ble_eq_true rfl, Nat.le_of_ble_eq_true rfl⟩ (x_recv hK hH (id := [0]) (by first | trivial | (simp only [xD]; omega) | (simp [xD]; done) | (simp [xD]; omega)) (ci := 6) rfl (by decide) rfl) hH rfl rfl (Nat.le_of_ble_eq_true rfl) dX6_complete_2 (fun H locs hH hS => ?_)
  refine lv_astore_n (lv' := [(3, .ref (ga g [11, c, 0])), (0, .ref (ga g [0])), (1, .int (nI c)), (2, .int (nI j))]) hx hb dX6_complete_5 rfl hl (by decide) rfl (fun ls hl => ?_)
  refine lv_aload_n hx hb dX6_complete_6 rfl (lv_at hl 0 rfl) ?_
  refine x_get (C := RX0) (T := TX0) (N := 11) (ci := 0) hx hb hts iu0 hown hK hH (id := [11, c, 0]) (by first | trivial | (simp only [xD]; omega) | (simp [xD]; done) | (simp [xD]; omega)) rfl rfl (by decide) 0 (by decide) (hts _ tw91) (fun _ h9 => h9) (sX_at _ _ _ _) (v := .ref (ga g [5, sPl h c])) rfl dX6_complete_7 ?_
  refine lv_iload_n hx hb dX6_complete_10 rfl (lv_at hl 3 rfl) ?_
  refine x_S1 hx hb hml hown hE hS hl.1 cyX6_existingStep tw372 (c_X6_existingStep l g h (sX I c (gX I c)) n (sPl h c) j hpp hj h8 hWp.2.2.1) ⟨Nat.le_of_ble_eq_true rfl, Nat.le_of_ble_eq_true rfl⟩ ⟨Nat.le_of_ble_eq_true rfl, Nat.le_of_ble_eq_true rfl⟩ hH rfl rfl (Nat.le_of_ble_eq_true rfl) dX6_complete_11 (fun H locs hH hS => ?_)
  refine x_S0 hx hb hml hown hE hS hl.1 cyX6_refuseOtherThanTask tw447 (c_X6_refuseOtherThanTask l g h (sX I c (gX I c)) n (sPl h c) j hpp hj hk) ⟨Nat.le_of_ble_eq_true rfl, Nat.le_of_ble_eq_true rfl⟩ ⟨Nat.le_of_ble_eq_true rfl, Nat.le_of_ble_eq_true rfl⟩ hH rfl rfl (Nat.le_of_ble_eq_true rfl) dX6_complete_14 (fun H locs hH hS => ?_)
  refine lv_aload_n hx hb dX6_complete_17 rfl (lv_at hl 0 rfl) ?_
  refine lv_iload_n hx hb dX6_complete_18 rfl (lv_at hl 3 rfl) ?_
  refine x_V1 hx hb hml hown hE hS hl.1 cyX0_stateOf tw611 (c_X0_stateOf l g h I n c (gX I c) (Or.inl hc) j (by omega) hch) ⟨Nat.le_of_ble_eq_true rfl, Nat.le_of_ble_eq_true rfl⟩ ⟨Nat.le_of_ble_eq_true rfl, Nat.le_of_ble_eq_true rfl⟩ (x_recv hK hH (id := [11, c, 0]) (by first | trivial | (simp only [xD]; omega) | (simp [xD]; done) | (simp [xD]; omega)) (ci := 0) rfl (by decide) rfl) hH rfl rfl (Nat.le_of_ble_eq_true rfl) dX6_complete_19 (fun H locs hH hS => ?_)
  refine lv_bipush (v := 97) hx hb dX6_complete_22 (by decide) ?_
  refine lv_icmp_eq (tgt := 37) hx hb dX6_complete_24 (by decide) (fun q_ => absurd q_ ha) (fun _ => ?_)
  rw [sX_get] at hH
  exact x_thr (text := "the task is not active") hx hb hst hown hE hS hH (hl.1.trans hml.symm) thIS (List.mem_of_getElem? (i := 19) rfl) dX6_complete_27 dX6_complete_30 dX6_complete_31 dX6_complete_33 dX6_complete_36 hout hlocks (Nat.le_of_ble_eq_true rfl) (Nat.le_of_ble_eq_true rfl) (Nat.le_of_ble_eq_true rfl) (Nat.le_of_ble_eq_true rfl) (Nat.le_of_ble_eq_true rfl) (Nat.le_of_ble_eq_true rfl) (fun _ hq => hq)

set_option maxHeartbeats 1000000 in
set_option maxRecDepth 100000 in
theorem t_X6_move_p (l : Launch) (hst : l.stackTraces = false) (g : xG) (h : xS) (I : xI) (n : Nat) (hW : xWs0 h I) (hC : xWc h I) (c : Nat) (hc : c < sNc h) (x : Int32) (hx0 : x < 0 ∨ nI (sNp h) ≤ x)  : xTc l yX6_move (xws yX6_move cX6_move 6 (some FieldType.int)) 7 112 g [.ref (ga g [0]), .int (nI c), .int x] (xR g (xD h) I (xFh h) n) eIO (xG_ g (xD h) I (xFh h) n) 1 6 := by
  refine xTc.of (by decide) (Nat.le_of_ble_eq_true rfl) ?_
  intro P_ e_ s m_ bl_ mt_ cd_ ls hx hb hr hown hlocks hml hout hE hK hts hH hS hl
  have hl : lv_has ls 6 [(0, .ref (ga g [0])), (1, .int (nI c)), (2, .int x)] := hl
  have hpp := (hC.2.2 c hc).1
  have hch := (hC.2.2 c hc).2
  have hWp := hW.2.2 _ hpp
  have h4 := hC.1
  have h3 := hW.1
  have h8 := hWp.1
  refine lv_aload_n hx hb dX6_move_0 rfl (lv_at hl 0 rfl) ?_
  refine lv_iload_n hx hb dX6_move_1 rfl (lv_at hl 1 rfl) ?_
  refine x_V1 hx hb hml hown hE hS hl.1 cyX6_existingCase tw571 (c_X6_existingCase l g h I n c hc h4 hC.2.1) ⟨Nat.le_of_ble_eq_true rfl, Nat.le_of_ble_eq_true rfl⟩ ⟨Nat.le_of_ble_eq_true rfl, Nat.le_of_ble_eq_true rfl⟩ (x_recv hK hH (id := [0]) (by first | trivial | (simp only [xD]; omega) | (simp [xD]; done) | (simp [xD]; omega)) (ci := 6) rfl (by decide) rfl) hH rfl rfl (Nat.le_of_ble_eq_true rfl) dX6_move_2 (fun H locs hH hS => ?_)
  refine lv_astore_n (lv' := [(3, .ref (ga g [11, c, 0])), (0, .ref (ga g [0])), (1, .int (nI c)), (2, .int x)]) hx hb dX6_move_5 rfl hl (by decide) rfl (fun ls hl => ?_)
  refine lv_aload_n hx hb dX6_move_6 rfl (lv_at hl 1 rfl) ?_
  refine lv_iload_n hx hb dX6_move_7 rfl (lv_at hl 3 rfl) ?_
  exact x_outT (x_VT hx hb hml hown hE hS hl.1 cyX6_existingPlan tw247 (t_X6_existingPlan l hst g h I n x hW.2.1 hx0) ⟨Nat.le_of_ble_eq_true rfl, Nat.le_of_ble_eq_true rfl⟩ ⟨Nat.le_of_ble_eq_true rfl, Nat.le_of_ble_eq_true rfl⟩ (x_recv hK hH (id := [0]) (by first | trivial | (simp only [xD]; omega) | (simp [xD]; done) | (simp [xD]; omega)) (ci := 6) rfl (by decide) rfl) hH rfl rfl (Nat.le_of_ble_eq_true rfl) dX6_move_8) hS hout hlocks (fun _ hq => hq) (Nat.le_of_ble_eq_true rfl) (Nat.le_of_ble_eq_true rfl)

set_option maxHeartbeats 1000000 in
set_option maxRecDepth 100000 in
theorem t_X6_move_s (l : Launch) (hst : l.stackTraces = false) (g : xG) (h : xS) (I : xI) (n : Nat) (hW : xWs0 h I) (hC : xWc h I) (c : Nat) (hc : c < sNc h) (q : Nat) (hq : q < sNp h) (hzq : sSz h q < sSz h (sPl h c)) : xTc l yX6_move (xws yX6_move cX6_move 6 (some FieldType.int)) 6 90 g [.ref (ga g [0]), .int (nI c), .int (nI q)] (xR g (xD h) I (xFh h) n) eIA (xG_ g (xD h) I (xFh h) n) 1 6 := by
  refine xTc.of (by decide) (Nat.le_of_ble_eq_true rfl) ?_
  intro P_ e_ s m_ bl_ mt_ cd_ ls hx hb hr hown hlocks hml hout hE hK hts hH hS hl
  have hl : lv_has ls 6 [(0, .ref (ga g [0])), (1, .int (nI c)), (2, .int (nI q))] := hl
  have hpp := (hC.2.2 c hc).1
  have hch := (hC.2.2 c hc).2
  have hWp := hW.2.2 _ hpp
  have h4 := hC.1
  have h3 := hW.1
  have h8 := hWp.1
  have hWq := hW.2.2 _ hq
  refine lv_aload_n hx hb dX6_move_0 rfl (lv_at hl 0 rfl) ?_
  refine lv_iload_n hx hb dX6_move_1 rfl (lv_at hl 1 rfl) ?_
  refine x_V1 hx hb hml hown hE hS hl.1 cyX6_existingCase tw571 (c_X6_existingCase l g h I n c hc h4 hC.2.1) ⟨Nat.le_of_ble_eq_true rfl, Nat.le_of_ble_eq_true rfl⟩ ⟨Nat.le_of_ble_eq_true rfl, Nat.le_of_ble_eq_true rfl⟩ (x_recv hK hH (id := [0]) (by first | trivial | (simp only [xD]; omega) | (simp [xD]; done) | (simp [xD]; omega)) (ci := 6) rfl (by decide) rfl) hH rfl rfl (Nat.le_of_ble_eq_true rfl) dX6_move_2 (fun H locs hH hS => ?_)
  refine lv_astore_n (lv' := [(3, .ref (ga g [11, c, 0])), (0, .ref (ga g [0])), (1, .int (nI c)), (2, .int (nI q))]) hx hb dX6_move_5 rfl hl (by decide) rfl (fun ls hl => ?_)
  refine lv_aload_n hx hb dX6_move_6 rfl (lv_at hl 1 rfl) ?_
  refine lv_iload_n hx hb dX6_move_7 rfl (lv_at hl 3 rfl) ?_
  refine x_V1 hx hb hml hown hE hS hl.1 cyX6_existingPlan tw247 (c_X6_existingPlan l g h I n q hq h3 hW.2.1) ⟨Nat.le_of_ble_eq_true rfl, Nat.le_of_ble_eq_true rfl⟩ ⟨Nat.le_of_ble_eq_true rfl, Nat.le_of_ble_eq_true rfl⟩ (x_recv hK hH (id := [0]) (by first | trivial | (simp only [xD]; omega) | (simp [xD]; done) | (simp [xD]; omega)) (ci := 6) rfl (by decide) rfl) hH rfl rfl (Nat.le_of_ble_eq_true rfl) dX6_move_8 (fun H locs hH hS => ?_)
  refine lv_astore (lv' := [(4, .ref (ga g [5, q])), (3, .ref (ga g [11, c, 0])), (0, .ref (ga g [0])), (1, .int (nI c)), (2, .int (nI q))]) hx hb dX6_move_11 hl (by decide) rfl (fun ls hl => ?_)
  refine lv_aload hx hb dX6_move_13 (lv_at hl 0 rfl) ?_
  refine x_get (C := RX4) (T := TX4) (N := 4) (ci := 4) hx hb hts iu4 hown hK hH (id := [5, q]) (by first | trivial | (simp only [xD]; omega) | (simp [xD]; done) | (simp [xD]; omega)) rfl rfl (by decide) 2 (by decide) (hts _ tw73) (fun _ h9 => h9) rfl (v := .int (nI (sSz h q))) (congrArg Value.int hWq.2.2.1) dX6_move_15 ?_
  refine lv_aload_n hx hb dX6_move_18 rfl (lv_at hl 1 rfl) ?_
  refine x_get (C := RX0) (T := TX0) (N := 11) (ci := 0) hx hb hts iu0 hown hK hH (id := [11, c, 0]) (by first | trivial | (simp only [xD]; omega) | (simp [xD]; done) | (simp [xD]; omega)) rfl rfl (by decide) 0 (by decide) (hts _ tw91) (fun _ h9 => h9) rfl (v := .ref (ga g [5, sPl h c])) rfl dX6_move_19 ?_
  refine x_get (C := RX4) (T := TX4) (N := 4) (ci := 4) hx hb hts iu4 hown hK hH (id := [5, sPl h c]) (by first | trivial | (simp only [xD]; omega) | (simp [xD]; done) | (simp [xD]; omega)) rfl rfl (by decide) 2 (by decide) (hts _ tw73) (fun _ h9 => h9) rfl (v := .int (nI (sSz h (sPl h c)))) (congrArg Value.int hWp.2.2.1) dX6_move_22 ?_
  refine lv_icmp_ge (tgt := 38) hx hb dX6_move_25 (by decide) (fun q_ => absurd q_ (fun z_ => absurd ((nI_leI (a := (sSz h (sPl h c))) (b := (sSz h q)) (by omega) (by omega)).mp z_) (by omega))) (fun _ => ?_)
  exact x_thr (text := "the plan has fewer steps than that of the case") hx hb hst hown hE hS hH (hl.1.trans hml.symm) thIA (List.mem_of_getElem? (i := 20) rfl) dX6_move_28 dX6_move_31 dX6_move_32 dX6_move_34 dX6_move_37 hout hlocks (Nat.le_of_ble_eq_true rfl) (Nat.le_of_ble_eq_true rfl) (Nat.le_of_ble_eq_true rfl) (Nat.le_of_ble_eq_true rfl) (Nat.le_of_ble_eq_true rfl) (Nat.le_of_ble_eq_true rfl) (fun _ hq => hq)

set_option maxHeartbeats 1000000 in
set_option maxRecDepth 100000 in
theorem t_X6_pass_l (l : Launch) (hst : l.stackTraces = false) (g : xG) (h : xS) (I : xI) (n : Nat) (x : Int32) (hx1 : x < 1) : xTc l yX6_pass (xws yX6_pass cX6_pass 4 (some FieldType.int)) 6 90 g [.ref (ga g [0]), .int x] (xR g (xD h) I (xFh h) n) eIA (xG_ g (xD h) I (xFh h) n) 1 6 := by
  refine xTc.of (by decide) (Nat.le_of_ble_eq_true rfl) ?_
  intro P_ e_ s m_ bl_ mt_ cd_ ls hx hb hr hown hlocks hml hout hE hK hts hH hS hl
  have hl : lv_has ls 4 [(0, .ref (ga g [0])), (1, .int x)] := hl
  refine lv_iload_n hx hb dX6_pass_0 rfl (lv_at hl 1 rfl) ?_
  refine lv_iconst (v := 1) hx hb dX6_pass_1 (by decide) ?_
  refine lv_icmp_lt (tgt := 11) hx hb dX6_pass_2 (by decide) (fun _ => ?_) (fun q_ => absurd hx1 q_)
  exact x_thr (text := "the number of days is not between 1 and 10") hx hb hst hown hE hS hH (hl.1.trans hml.symm) thIA (List.mem_of_getElem? (i := 21) rfl) dX6_pass_11 dX6_pass_14 dX6_pass_15 dX6_pass_17 dX6_pass_20 hout hlocks (Nat.le_of_ble_eq_true rfl) (Nat.le_of_ble_eq_true rfl) (Nat.le_of_ble_eq_true rfl) (Nat.le_of_ble_eq_true rfl) (Nat.le_of_ble_eq_true rfl) (Nat.le_of_ble_eq_true rfl) (fun _ hq => hq)

set_option maxHeartbeats 1000000 in
set_option maxRecDepth 100000 in
theorem t_X6_pass_h (l : Launch) (hst : l.stackTraces = false) (g : xG) (h : xS) (I : xI) (n : Nat) (x : Int32) (hx1 : ¬ x < 1) (hx2 : 10 < x) : xTc l yX6_pass (xws yX6_pass cX6_pass 4 (some FieldType.int)) 6 90 g [.ref (ga g [0]), .int x] (xR g (xD h) I (xFh h) n) eIA (xG_ g (xD h) I (xFh h) n) 1 6 := by
  refine xTc.of (by decide) (Nat.le_of_ble_eq_true rfl) ?_
  intro P_ e_ s m_ bl_ mt_ cd_ ls hx hb hr hown hlocks hml hout hE hK hts hH hS hl
  have hl : lv_has ls 4 [(0, .ref (ga g [0])), (1, .int x)] := hl
  refine lv_iload_n hx hb dX6_pass_0 rfl (lv_at hl 1 rfl) ?_
  refine lv_iconst (v := 1) hx hb dX6_pass_1 (by decide) ?_
  refine lv_icmp_lt (tgt := 11) hx hb dX6_pass_2 (by decide) (fun q_ => absurd q_ hx1) (fun _ => ?_)
  refine lv_iload_n hx hb dX6_pass_5 rfl (lv_at hl 1 rfl) ?_
  refine lv_bipush (v := 10) hx hb dX6_pass_6 (by decide) ?_
  refine lv_icmp_le (tgt := 21) hx hb dX6_pass_8 (by decide) (fun q_ => absurd q_ (i_lt_nle hx2)) (fun _ => ?_)
  exact x_thr (text := "the number of days is not between 1 and 10") hx hb hst hown hE hS hH (hl.1.trans hml.symm) thIA (List.mem_of_getElem? (i := 21) rfl) dX6_pass_11 dX6_pass_14 dX6_pass_15 dX6_pass_17 dX6_pass_20 hout hlocks (Nat.le_of_ble_eq_true rfl) (Nat.le_of_ble_eq_true rfl) (Nat.le_of_ble_eq_true rfl) (Nat.le_of_ble_eq_true rfl) (Nat.le_of_ble_eq_true rfl) (Nat.le_of_ble_eq_true rfl) (fun _ hq => hq)
