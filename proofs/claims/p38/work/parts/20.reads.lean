/-! CONTRACTS: the public reads, where they answer -/
def sBo (x : Int32) : Prop := x = 0 ∨ x = 1
theorem sBo.nar {x : Int32} (h : sBo x) : narrow .boolean (.int x) = .int x := by rcases h with rfl | rfl <;> rfl
theorem sBo.fit {x : Int32} (h : sBo x) : fits .boolean (.int x) = true := by rcases h with rfl | rfl <;> rfl
theorem b01_bo (b : Bool) : sBo (b01 b) := by cases b; exact Or.inl rfl; exact Or.inr rfl
set_option maxHeartbeats 1000000 in
set_option maxRecDepth 100000 in
theorem c_X6_rounds (l : Launch) (g : xG) (h : xS) (I : xI) (n : Nat) (hW : xWs0 h I) (hC : xWc h I) (c : Nat) (hc : c < sNc h)  : xM l yX6_rounds (xws yX6_rounds cX6_rounds 2 (some FieldType.int)) 3 55 g [.ref (ga g [0]), .int (nI c)] (xR g (xD h) I (xFh h) n) (some (.int (I [11, c, 0] 9))) (xR g (xD h) I (xFh h) n) 0 0 := by
  refine xM.of (by decide) (Nat.le_of_ble_eq_true rfl) ?_
  intro P_ e_ s m_ bl_ mt_ cd_ ls hx hb hr hown hlocks hml hnm hE hK hts hH hS hl
  have hl : lv_has ls 2 [(0, .ref (ga g [0])), (1, .int (nI c))] := hl
  have hpp := (hC.2.2 c hc).1
  have hch := (hC.2.2 c hc).2
  have hWp := hW.2.2 _ hpp
  have h4 := hC.1
  have h3 := hW.1
  have h8 := hWp.1
  refine lv_aload_n hx hb dX6_rounds_0 rfl (lv_at hl 0 rfl) ?_
  refine lv_iload_n hx hb dX6_rounds_1 rfl (lv_at hl 1 rfl) ?_
  refine x_V1 hx hb hml hown hE hS hl.1 cyX6_existingCase tw571 (c_X6_existingCase l g h I n c hc h4 hC.2.1) ⟨Nat.le_of_ble_eq_true rfl, Nat.le_of_ble_eq_true rfl⟩ ⟨Nat.le_of_ble_eq_true rfl, Nat.le_of_ble_eq_true rfl⟩ (x_recv hK hH (id := [0]) (by first | trivial | (simp only [xD]; omega) | (simp [xD]; done) | (simp [xD]; omega)) (ci := 6) rfl (by decide) rfl) hH rfl rfl (Nat.le_of_ble_eq_true rfl) dX6_rounds_2 (fun H locs hH hS => ?_)
  refine x_get (C := RX0) (T := TX0) (N := 11) (ci := 0) hx hb hts iu0 hown hK hH (id := [11, c, 0]) (by first | trivial | (simp only [xD]; omega) | (simp [xD]; done) | (simp [xD]; omega)) rfl rfl (by decide) 9 (by decide) (hts _ tw104) (fun _ h9 => h9) rfl (v := .int (I [11, c, 0] 9)) rfl dX6_rounds_5 ?_
  exact x_iret hx hb hr hlocks hS dX6_rounds_8 rfl hH

set_option maxHeartbeats 1000000 in
set_option maxRecDepth 100000 in
theorem c_X6_days (l : Launch) (g : xG) (h : xS) (I : xI) (n : Nat) (hW : xWs0 h I) (hC : xWc h I) (c : Nat) (hc : c < sNc h)  : xM l yX6_days (xws yX6_days cX6_days 2 (some FieldType.int)) 3 55 g [.ref (ga g [0]), .int (nI c)] (xR g (xD h) I (xFh h) n) (some (.int (I [11, c, 0] 6))) (xR g (xD h) I (xFh h) n) 0 0 := by
  refine xM.of (by decide) (Nat.le_of_ble_eq_true rfl) ?_
  intro P_ e_ s m_ bl_ mt_ cd_ ls hx hb hr hown hlocks hml hnm hE hK hts hH hS hl
  have hl : lv_has ls 2 [(0, .ref (ga g [0])), (1, .int (nI c))] := hl
  have hpp := (hC.2.2 c hc).1
  have hch := (hC.2.2 c hc).2
  have hWp := hW.2.2 _ hpp
  have h4 := hC.1
  have h3 := hW.1
  have h8 := hWp.1
  refine lv_aload_n hx hb dX6_days_0 rfl (lv_at hl 0 rfl) ?_
  refine lv_iload_n hx hb dX6_days_1 rfl (lv_at hl 1 rfl) ?_
  refine x_V1 hx hb hml hown hE hS hl.1 cyX6_existingCase tw571 (c_X6_existingCase l g h I n c hc h4 hC.2.1) ⟨Nat.le_of_ble_eq_true rfl, Nat.le_of_ble_eq_true rfl⟩ ⟨Nat.le_of_ble_eq_true rfl, Nat.le_of_ble_eq_true rfl⟩ (x_recv hK hH (id := [0]) (by first | trivial | (simp only [xD]; omega) | (simp [xD]; done) | (simp [xD]; omega)) (ci := 6) rfl (by decide) rfl) hH rfl rfl (Nat.le_of_ble_eq_true rfl) dX6_days_2 (fun H locs hH hS => ?_)
  refine x_get (C := RX0) (T := TX0) (N := 11) (ci := 0) hx hb hts iu0 hown hK hH (id := [11, c, 0]) (by first | trivial | (simp only [xD]; omega) | (simp [xD]; done) | (simp [xD]; omega)) rfl rfl (by decide) 6 (by decide) (hts _ tw98) (fun _ h9 => h9) rfl (v := .int (I [11, c, 0] 6)) rfl dX6_days_5 ?_
  exact x_iret hx hb hr hlocks hS dX6_days_8 rfl hH

set_option maxHeartbeats 1000000 in
set_option maxRecDepth 100000 in
theorem c_X6_happened (l : Launch) (g : xG) (h : xS) (I : xI) (n : Nat) (hW : xWs0 h I) (hC : xWc h I) (c : Nat) (hc : c < sNc h)  : xM l yX6_happened (xws yX6_happened cX6_happened 2 (some FieldType.int)) 3 55 g [.ref (ga g [0]), .int (nI c)] (xR g (xD h) I (xFh h) n) (some (.int (I [11, c, 0] 10))) (xR g (xD h) I (xFh h) n) 0 0 := by
  refine xM.of (by decide) (Nat.le_of_ble_eq_true rfl) ?_
  intro P_ e_ s m_ bl_ mt_ cd_ ls hx hb hr hown hlocks hml hnm hE hK hts hH hS hl
  have hl : lv_has ls 2 [(0, .ref (ga g [0])), (1, .int (nI c))] := hl
  have hpp := (hC.2.2 c hc).1
  have hch := (hC.2.2 c hc).2
  have hWp := hW.2.2 _ hpp
  have h4 := hC.1
  have h3 := hW.1
  have h8 := hWp.1
  refine lv_aload_n hx hb dX6_happened_0 rfl (lv_at hl 0 rfl) ?_
  refine lv_iload_n hx hb dX6_happened_1 rfl (lv_at hl 1 rfl) ?_
  refine x_V1 hx hb hml hown hE hS hl.1 cyX6_existingCase tw571 (c_X6_existingCase l g h I n c hc h4 hC.2.1) ⟨Nat.le_of_ble_eq_true rfl, Nat.le_of_ble_eq_true rfl⟩ ⟨Nat.le_of_ble_eq_true rfl, Nat.le_of_ble_eq_true rfl⟩ (x_recv hK hH (id := [0]) (by first | trivial | (simp only [xD]; omega) | (simp [xD]; done) | (simp [xD]; omega)) (ci := 6) rfl (by decide) rfl) hH rfl rfl (Nat.le_of_ble_eq_true rfl) dX6_happened_2 (fun H locs hH hS => ?_)
  refine x_get (C := RX0) (T := TX0) (N := 11) (ci := 0) hx hb hts iu0 hown hK hH (id := [11, c, 0]) (by first | trivial | (simp only [xD]; omega) | (simp [xD]; done) | (simp [xD]; omega)) rfl rfl (by decide) 10 (by decide) (hts _ tw106) (fun _ h9 => h9) rfl (v := .int (I [11, c, 0] 10)) rfl dX6_happened_5 ?_
  exact x_iret hx hb hr hlocks hS dX6_happened_8 rfl hH

set_option maxHeartbeats 1000000 in
set_option maxRecDepth 100000 in
theorem c_X6_isWaiting (l : Launch) (g : xG) (h : xS) (I : xI) (n : Nat) (hW : xWs0 h I) (hC : xWc h I) (c : Nat) (hc : c < sNc h) (hb7 : sBo (I [11, c, 0] 7)) : xM l yX6_isWaiting (xws yX6_isWaiting cX6_isWaiting 2 (some FieldType.boolean)) 3 55 g [.ref (ga g [0]), .int (nI c)] (xR g (xD h) I (xFh h) n) (some (.int (I [11, c, 0] 7))) (xR g (xD h) I (xFh h) n) 0 0 := by
  refine xM.of (by decide) (Nat.le_of_ble_eq_true rfl) ?_
  intro P_ e_ s m_ bl_ mt_ cd_ ls hx hb hr hown hlocks hml hnm hE hK hts hH hS hl
  have hl : lv_has ls 2 [(0, .ref (ga g [0])), (1, .int (nI c))] := hl
  have hpp := (hC.2.2 c hc).1
  have hch := (hC.2.2 c hc).2
  have hWp := hW.2.2 _ hpp
  have h4 := hC.1
  have h3 := hW.1
  have h8 := hWp.1
  refine lv_aload_n hx hb dX6_isWaiting_0 rfl (lv_at hl 0 rfl) ?_
  refine lv_iload_n hx hb dX6_isWaiting_1 rfl (lv_at hl 1 rfl) ?_
  refine x_V1 hx hb hml hown hE hS hl.1 cyX6_existingCase tw571 (c_X6_existingCase l g h I n c hc h4 hC.2.1) ⟨Nat.le_of_ble_eq_true rfl, Nat.le_of_ble_eq_true rfl⟩ ⟨Nat.le_of_ble_eq_true rfl, Nat.le_of_ble_eq_true rfl⟩ (x_recv hK hH (id := [0]) (by first | trivial | (simp only [xD]; omega) | (simp [xD]; done) | (simp [xD]; omega)) (ci := 6) rfl (by decide) rfl) hH rfl rfl (Nat.le_of_ble_eq_true rfl) dX6_isWaiting_2 (fun H locs hH hS => ?_)
  refine x_get (C := RX0) (T := TX0) (N := 11) (ci := 0) hx hb hts iu0 hown hK hH (id := [11, c, 0]) (by first | trivial | (simp only [xD]; omega) | (simp [xD]; done) | (simp [xD]; omega)) rfl rfl (by decide) 7 (by decide) (hts _ tw100) (fun _ h9 => h9) rfl (v := .int (I [11, c, 0] 7)) rfl dX6_isWaiting_5 ?_
  exact x_zret hx hb hr hlocks hS dX6_isWaiting_8 hb7.nar rfl hH

set_option maxHeartbeats 1000000 in
set_option maxRecDepth 100000 in
theorem c_X6_planOf (l : Launch) (g : xG) (h : xS) (I : xI) (n : Nat) (hW : xWs0 h I) (hC : xWc h I) (c : Nat) (hc : c < sNc h)  : xM l yX6_planOf (xws yX6_planOf cX6_planOf 2 (some FieldType.int)) 3 55 g [.ref (ga g [0]), .int (nI c)] (xR g (xD h) I (xFh h) n) (some (.int (nI (sPl h c)))) (xR g (xD h) I (xFh h) n) 0 0 := by
  refine xM.of (by decide) (Nat.le_of_ble_eq_true rfl) ?_
  intro P_ e_ s m_ bl_ mt_ cd_ ls hx hb hr hown hlocks hml hnm hE hK hts hH hS hl
  have hl : lv_has ls 2 [(0, .ref (ga g [0])), (1, .int (nI c))] := hl
  have hpp := (hC.2.2 c hc).1
  have hch := (hC.2.2 c hc).2
  have hWp := hW.2.2 _ hpp
  have h4 := hC.1
  have h3 := hW.1
  have h8 := hWp.1
  refine lv_aload_n hx hb dX6_planOf_0 rfl (lv_at hl 0 rfl) ?_
  refine lv_iload_n hx hb dX6_planOf_1 rfl (lv_at hl 1 rfl) ?_
  refine x_V1 hx hb hml hown hE hS hl.1 cyX6_existingCase tw571 (c_X6_existingCase l g h I n c hc h4 hC.2.1) ⟨Nat.le_of_ble_eq_true rfl, Nat.le_of_ble_eq_true rfl⟩ ⟨Nat.le_of_ble_eq_true rfl, Nat.le_of_ble_eq_true rfl⟩ (x_recv hK hH (id := [0]) (by first | trivial | (simp only [xD]; omega) | (simp [xD]; done) | (simp [xD]; omega)) (ci := 6) rfl (by decide) rfl) hH rfl rfl (Nat.le_of_ble_eq_true rfl) dX6_planOf_2 (fun H locs hH hS => ?_)
  refine x_get (C := RX0) (T := TX0) (N := 11) (ci := 0) hx hb hts iu0 hown hK hH (id := [11, c, 0]) (by first | trivial | (simp only [xD]; omega) | (simp [xD]; done) | (simp [xD]; omega)) rfl rfl (by decide) 0 (by decide) (hts _ tw91) (fun _ h9 => h9) rfl (v := .ref (ga g [5, sPl h c])) rfl dX6_planOf_5 ?_
  refine x_get (C := RX4) (T := TX4) (N := 4) (ci := 4) hx hb hts iu4 hown hK hH (id := [5, sPl h c]) (by first | trivial | (simp only [xD]; omega) | (simp [xD]; done) | (simp [xD]; omega)) rfl rfl (by decide) 0 (by decide) (hts _ tw70) (fun _ h9 => h9) rfl (v := .int (nI (sPl h c))) (congrArg Value.int hWp.2.1) dX6_planOf_8 ?_
  exact x_iret hx hb hr hlocks hS dX6_planOf_11 rfl hH

set_option maxHeartbeats 1000000 in
set_option maxRecDepth 100000 in
theorem c_X6_cases (l : Launch) (g : xG) (h : xS) (I : xI) (n : Nat) (hW : xWs0 h I) (hC : xWc h I)  : xM l yX6_cases (xws yX6_cases cX6_cases 1 (some FieldType.int)) 1 12 g [.ref (ga g [0])] (xR g (xD h) I (xFh h) n) (some (.int (nI (sNc h)))) (xR g (xD h) I (xFh h) n) 0 0 := by
  refine xM.of (by decide) (Nat.le_of_ble_eq_true rfl) ?_
  intro P_ e_ s m_ bl_ mt_ cd_ ls hx hb hr hown hlocks hml hnm hE hK hts hH hS hl
  have hl : lv_has ls 1 [(0, .ref (ga g [0]))] := hl
  refine lv_aload_n hx hb dX6_cases_0 rfl (lv_at hl 0 rfl) ?_
  refine x_get (C := RX6) (T := TX6) (N := 6) (ci := 6) hx hb hts iu6 hown hK hH (id := [0]) (by first | trivial | (simp only [xD]; omega) | (simp [xD]; done) | (simp [xD]; omega)) rfl rfl (by decide) 3 (by decide) (hts _ tw134) (fun _ h9 => h9) rfl (v := .int (nI (sNc h))) (congrArg Value.int hC.2.1) dX6_cases_1 ?_
  exact x_iret hx hb hr hlocks hS dX6_cases_4 rfl hH

set_option maxHeartbeats 1000000 in
set_option maxRecDepth 100000 in
theorem c_X6_steps (l : Launch) (g : xG) (h : xS) (I : xI) (n : Nat) (hW : xWs0 h I) (p : Nat) (hpp : p < sNp h) : xM l yX6_steps (xws yX6_steps cX6_steps 2 (some FieldType.int)) 3 55 g [.ref (ga g [0]), .int (nI p)] (xR g (xD h) I (xFh h) n) (some (.int (nI (sSz h p)))) (xR g (xD h) I (xFh h) n) 0 0 := by
  refine xM.of (by decide) (Nat.le_of_ble_eq_true rfl) ?_
  intro P_ e_ s m_ bl_ mt_ cd_ ls hx hb hr hown hlocks hml hnm hE hK hts hH hS hl
  have hl : lv_has ls 2 [(0, .ref (ga g [0])), (1, .int (nI p))] := hl
  refine lv_aload_n hx hb dX6_steps_0 rfl (lv_at hl 0 rfl) ?_
  refine lv_iload_n hx hb dX6_steps_1 rfl (lv_at hl 1 rfl) ?_
  refine x_V1 hx hb hml hown hE hS hl.1 cyX6_existingPlan tw247 (c_X6_existingPlan l g h I n p hpp hW.1 hW.2.1) ⟨Nat.le_of_ble_eq_true rfl, Nat.le_of_ble_eq_true rfl⟩ ⟨Nat.le_of_ble_eq_true rfl, Nat.le_of_ble_eq_true rfl⟩ (x_recv hK hH (id := [0]) (by first | trivial | (simp only [xD]; omega) | (simp [xD]; done) | (simp [xD]; omega)) (ci := 6) rfl (by decide) rfl) hH rfl rfl (Nat.le_of_ble_eq_true rfl) dX6_steps_2 (fun H locs hH hS => ?_)
  refine x_get (C := RX4) (T := TX4) (N := 4) (ci := 4) hx hb hts iu4 hown hK hH (id := [5, p]) (by first | trivial | (simp only [xD]; omega) | (simp [xD]; done) | (simp [xD]; omega)) rfl rfl (by decide) 2 (by decide) (hts _ tw73) (fun _ h9 => h9) rfl (v := .int (nI (sSz h p))) (congrArg Value.int (hW.2.2 p hpp).2.2.1) dX6_steps_5 ?_
  exact x_iret hx hb hr hlocks hS dX6_steps_8 rfl hH

set_option maxHeartbeats 1000000 in
set_option maxRecDepth 100000 in
theorem c_X6_isUsed (l : Launch) (g : xG) (h : xS) (I : xI) (n : Nat) (hW : xWs0 h I) (p : Nat) (hpp : p < sNp h) (hb3 : sBo (I [5, p] 3)) : xM l yX6_isUsed (xws yX6_isUsed cX6_isUsed 2 (some FieldType.boolean)) 3 55 g [.ref (ga g [0]), .int (nI p)] (xR g (xD h) I (xFh h) n) (some (.int (I [5, p] 3))) (xR g (xD h) I (xFh h) n) 0 0 := by
  refine xM.of (by decide) (Nat.le_of_ble_eq_true rfl) ?_
  intro P_ e_ s m_ bl_ mt_ cd_ ls hx hb hr hown hlocks hml hnm hE hK hts hH hS hl
  have hl : lv_has ls 2 [(0, .ref (ga g [0])), (1, .int (nI p))] := hl
  refine lv_aload_n hx hb dX6_isUsed_0 rfl (lv_at hl 0 rfl) ?_
  refine lv_iload_n hx hb dX6_isUsed_1 rfl (lv_at hl 1 rfl) ?_
  refine x_V1 hx hb hml hown hE hS hl.1 cyX6_existingPlan tw247 (c_X6_existingPlan l g h I n p hpp hW.1 hW.2.1) ⟨Nat.le_of_ble_eq_true rfl, Nat.le_of_ble_eq_true rfl⟩ ⟨Nat.le_of_ble_eq_true rfl, Nat.le_of_ble_eq_true rfl⟩ (x_recv hK hH (id := [0]) (by first | trivial | (simp only [xD]; omega) | (simp [xD]; done) | (simp [xD]; omega)) (ci := 6) rfl (by decide) rfl) hH rfl rfl (Nat.le_of_ble_eq_true rfl) dX6_isUsed_2 (fun H locs hH hS => ?_)
  refine x_get (C := RX4) (T := TX4) (N := 4) (ci := 4) hx hb hts iu4 hown hK hH (id := [5, p]) (by first | trivial | (simp only [xD]; omega) | (simp [xD]; done) | (simp [xD]; omega)) rfl rfl (by decide) 3 (by decide) (hts _ tw76) (fun _ h9 => h9) rfl (v := .int (I [5, p] 3)) rfl dX6_isUsed_5 ?_
  exact x_zret hx hb hr hlocks hS dX6_isUsed_8 hb3.nar rfl hH

set_option maxHeartbeats 1000000 in
set_option maxRecDepth 100000 in
theorem c_X6_state (l : Launch) (g : xG) (h : xS) (I : xI) (n : Nat) (hW : xWs0 h I) (hC : xWc h I) (c : Nat) (hc : c < sNc h) (j : Nat) (hj : j < sSz h (sPl h c))  : xM l yX6_state (xws yX6_state cX6_state 3 (some FieldType.char)) 4 78 g [.ref (ga g [0]), .int (nI c), .int (nI j)] (xR g (xD h) I (xFh h) n) (some (.int (I [11, c, 2] j))) (xR g (xD h) I (xFh h) n) 0 0 := by
  refine xM.of (by decide) (Nat.le_of_ble_eq_true rfl) ?_
  intro P_ e_ s m_ bl_ mt_ cd_ ls hx hb hr hown hlocks hml hnm hE hK hts hH hS hl
  have hl : lv_has ls 3 [(0, .ref (ga g [0])), (1, .int (nI c)), (2, .int (nI j))] := hl
  have hpp := (hC.2.2 c hc).1
  have hch := (hC.2.2 c hc).2
  have hWp := hW.2.2 _ hpp
  have h4 := hC.1
  have h3 := hW.1
  have h8 := hWp.1
  rw [← sX_get I c] at hH
  refine lv_aload_n hx hb dX6_state_0 rfl (lv_at hl 0 rfl) ?_
  refine lv_iload_n hx hb dX6_state_1 rfl (lv_at hl 1 rfl) ?_
  refine lv_iload_n hx hb dX6_state_2 rfl (lv_at hl 2 rfl) ?_
  refine x_V1 hx hb hml hown hE hS hl.1 cyX6_caseWithStep tw651 (c_X6_caseWithStep l g h (sX I c (gX I c)) n c hc h4 hC.2.1 (sPl h c) rfl hpp j (by omega) h8 hWp.2.2.1) ⟨Nat.le_of_ble_eq_true rfl, Nat.le_of_ble_eq_true rfl⟩ ⟨Nat.le_of_ble_eq_true rfl, Nat.le_of_ble_eq_true rfl⟩ (x_recv hK hH (id := [0]) (by first | trivial | (simp only [xD]; omega) | (simp [xD]; done) | (simp [xD]; omega)) (ci := 6) rfl (by decide) rfl) hH rfl rfl (Nat.le_of_ble_eq_true rfl) dX6_state_3 (fun H locs hH hS => ?_)
  refine lv_iload_n hx hb dX6_state_6 rfl (lv_at hl 2 rfl) ?_
  refine x_V1 hx hb hml hown hE hS hl.1 cyX0_stateOf tw611 (c_X0_stateOf l g h I n c (gX I c) (Or.inl hc) j (by omega) hch) ⟨Nat.le_of_ble_eq_true rfl, Nat.le_of_ble_eq_true rfl⟩ ⟨Nat.le_of_ble_eq_true rfl, Nat.le_of_ble_eq_true rfl⟩ (x_recv hK hH (id := [11, c, 0]) (by first | trivial | (simp only [xD]; omega) | (simp [xD]; done) | (simp [xD]; omega)) (ci := 0) rfl (by decide) rfl) hH rfl rfl (Nat.le_of_ble_eq_true rfl) dX6_state_7 (fun H locs hH hS => ?_)
  exact x_zret hx hb hr hlocks hS dX6_state_10 (hch j) rfl (by rw [sX_get] at hH; exact hH)

set_option maxHeartbeats 1000000 in
set_option maxRecDepth 100000 in
theorem c_X6_clock (l : Launch) (g : xG) (h : xS) (I : xI) (n : Nat) (hW : xWs0 h I) (hC : xWc h I) (c : Nat) (hc : c < sNc h) (j : Nat) (hj : j < sSz h (sPl h c))  : xM l yX6_clock (xws yX6_clock cX6_clock 3 (some FieldType.int)) 4 78 g [.ref (ga g [0]), .int (nI c), .int (nI j)] (xR g (xD h) I (xFh h) n) (some (.int (I [11, c, 4] j))) (xR g (xD h) I (xFh h) n) 0 0 := by
  refine xM.of (by decide) (Nat.le_of_ble_eq_true rfl) ?_
  intro P_ e_ s m_ bl_ mt_ cd_ ls hx hb hr hown hlocks hml hnm hE hK hts hH hS hl
  have hl : lv_has ls 3 [(0, .ref (ga g [0])), (1, .int (nI c)), (2, .int (nI j))] := hl
  have hpp := (hC.2.2 c hc).1
  have hch := (hC.2.2 c hc).2
  have hWp := hW.2.2 _ hpp
  have h4 := hC.1
  have h3 := hW.1
  have h8 := hWp.1
  rw [← sX_get I c] at hH
  refine lv_aload_n hx hb dX6_clock_0 rfl (lv_at hl 0 rfl) ?_
  refine lv_iload_n hx hb dX6_clock_1 rfl (lv_at hl 1 rfl) ?_
  refine lv_iload_n hx hb dX6_clock_2 rfl (lv_at hl 2 rfl) ?_
  refine x_V1 hx hb hml hown hE hS hl.1 cyX6_caseWithStep tw651 (c_X6_caseWithStep l g h (sX I c (gX I c)) n c hc h4 hC.2.1 (sPl h c) rfl hpp j (by omega) h8 hWp.2.2.1) ⟨Nat.le_of_ble_eq_true rfl, Nat.le_of_ble_eq_true rfl⟩ ⟨Nat.le_of_ble_eq_true rfl, Nat.le_of_ble_eq_true rfl⟩ (x_recv hK hH (id := [0]) (by first | trivial | (simp only [xD]; omega) | (simp [xD]; done) | (simp [xD]; omega)) (ci := 6) rfl (by decide) rfl) hH rfl rfl (Nat.le_of_ble_eq_true rfl) dX6_clock_3 (fun H locs hH hS => ?_)
  refine lv_iload_n hx hb dX6_clock_6 rfl (lv_at hl 2 rfl) ?_
  refine x_V1 hx hb hml hown hE hS hl.1 cyX0_clockOf tw667 (c_X0_clockOf l g h I n c (gX I c) (Or.inl hc) j (by omega)) ⟨Nat.le_of_ble_eq_true rfl, Nat.le_of_ble_eq_true rfl⟩ ⟨Nat.le_of_ble_eq_true rfl, Nat.le_of_ble_eq_true rfl⟩ (x_recv hK hH (id := [11, c, 0]) (by first | trivial | (simp only [xD]; omega) | (simp [xD]; done) | (simp [xD]; omega)) (ci := 0) rfl (by decide) rfl) hH rfl rfl (Nat.le_of_ble_eq_true rfl) dX6_clock_7 (fun H locs hH hS => ?_)
  exact x_iret hx hb hr hlocks hS dX6_clock_10 rfl (by rw [sX_get] at hH; exact hH)

set_option maxHeartbeats 1000000 in
set_option maxRecDepth 100000 in
theorem c_X6_count (l : Launch) (g : xG) (h : xS) (I : xI) (n : Nat) (hW : xWs0 h I) (hC : xWc h I) (c : Nat) (hc : c < sNc h) (j : Nat) (hj : j < sSz h (sPl h c))  : xM l yX6_count (xws yX6_count cX6_count 3 (some FieldType.int)) 4 78 g [.ref (ga g [0]), .int (nI c), .int (nI j)] (xR g (xD h) I (xFh h) n) (some (.int (I [11, c, 5] j))) (xR g (xD h) I (xFh h) n) 0 0 := by
  refine xM.of (by decide) (Nat.le_of_ble_eq_true rfl) ?_
  intro P_ e_ s m_ bl_ mt_ cd_ ls hx hb hr hown hlocks hml hnm hE hK hts hH hS hl
  have hl : lv_has ls 3 [(0, .ref (ga g [0])), (1, .int (nI c)), (2, .int (nI j))] := hl
  have hpp := (hC.2.2 c hc).1
  have hch := (hC.2.2 c hc).2
  have hWp := hW.2.2 _ hpp
  have h4 := hC.1
  have h3 := hW.1
  have h8 := hWp.1
  rw [← sX_get I c] at hH
  refine lv_aload_n hx hb dX6_count_0 rfl (lv_at hl 0 rfl) ?_
  refine lv_iload_n hx hb dX6_count_1 rfl (lv_at hl 1 rfl) ?_
  refine lv_iload_n hx hb dX6_count_2 rfl (lv_at hl 2 rfl) ?_
  refine x_V1 hx hb hml hown hE hS hl.1 cyX6_caseWithStep tw651 (c_X6_caseWithStep l g h (sX I c (gX I c)) n c hc h4 hC.2.1 (sPl h c) rfl hpp j (by omega) h8 hWp.2.2.1) ⟨Nat.le_of_ble_eq_true rfl, Nat.le_of_ble_eq_true rfl⟩ ⟨Nat.le_of_ble_eq_true rfl, Nat.le_of_ble_eq_true rfl⟩ (x_recv hK hH (id := [0]) (by first | trivial | (simp only [xD]; omega) | (simp [xD]; done) | (simp [xD]; omega)) (ci := 6) rfl (by decide) rfl) hH rfl rfl (Nat.le_of_ble_eq_true rfl) dX6_count_3 (fun H locs hH hS => ?_)
  refine lv_iload_n hx hb dX6_count_6 rfl (lv_at hl 2 rfl) ?_
  refine x_V1 hx hb hml hown hE hS hl.1 cyX0_countOf tw676 (c_X0_countOf l g h I n c (gX I c) (Or.inl hc) j (by omega)) ⟨Nat.le_of_ble_eq_true rfl, Nat.le_of_ble_eq_true rfl⟩ ⟨Nat.le_of_ble_eq_true rfl, Nat.le_of_ble_eq_true rfl⟩ (x_recv hK hH (id := [11, c, 0]) (by first | trivial | (simp only [xD]; omega) | (simp [xD]; done) | (simp [xD]; omega)) (ci := 0) rfl (by decide) rfl) hH rfl rfl (Nat.le_of_ble_eq_true rfl) dX6_count_7 (fun H locs hH hS => ?_)
  exact x_iret hx hb hr hlocks hS dX6_count_10 rfl (by rw [sX_get] at hH; exact hH)

def sLte (P : Nat → Nat → Int32) (X : xX) (j : Nat) : Bool := sAct P X j && decide (sUnt P X j ≤ 0)
set_option maxHeartbeats 1000000 in
set_option maxRecDepth 100000 in
theorem c_X6_isLate (l : Launch) (g : xG) (h : xS) (I : xI) (n : Nat) (hW : xWs0 h I) (hC : xWc h I) (c : Nat) (hc : c < sNc h) (j : Nat) (hj : j < sSz h (sPl h c))  : xM l yX6_isLate (xws yX6_isLate cX6_isLate 4 (some FieldType.boolean)) 4 78 g [.ref (ga g [0]), .int (nI c), .int (nI j)] (xR g (xD h) I (xFh h) n) (some (.int (b01 (sLte (vP I (sPl h c)) (gX I c) j)))) (xR g (xD h) I (xFh h) n) 0 0 := by
  refine xM.of (by decide) (Nat.le_of_ble_eq_true rfl) ?_
  intro P_ e_ s m_ bl_ mt_ cd_ ls hx hb hr hown hlocks hml hnm hE hK hts hH hS hl
  have hl : lv_has ls 4 [(0, .ref (ga g [0])), (1, .int (nI c)), (2, .int (nI j))] := hl
  have hpp := (hC.2.2 c hc).1
  have hch := (hC.2.2 c hc).2
  have hWp := hW.2.2 _ hpp
  have h4 := hC.1
  have h3 := hW.1
  have h8 := hWp.1
  rw [← sX_get I c] at hH
  refine lv_aload_n hx hb dX6_isLate_0 rfl (lv_at hl 0 rfl) ?_
  refine lv_iload_n hx hb dX6_isLate_1 rfl (lv_at hl 1 rfl) ?_
  refine lv_iload_n hx hb dX6_isLate_2 rfl (lv_at hl 2 rfl) ?_
  refine x_V1 hx hb hml hown hE hS hl.1 cyX6_caseWithStep tw651 (c_X6_caseWithStep l g h (sX I c (gX I c)) n c hc h4 hC.2.1 (sPl h c) rfl hpp j (by omega) h8 hWp.2.2.1) ⟨Nat.le_of_ble_eq_true rfl, Nat.le_of_ble_eq_true rfl⟩ ⟨Nat.le_of_ble_eq_true rfl, Nat.le_of_ble_eq_true rfl⟩ (x_recv hK hH (id := [0]) (by first | trivial | (simp only [xD]; omega) | (simp [xD]; done) | (simp [xD]; omega)) (ci := 6) rfl (by decide) rfl) hH rfl rfl (Nat.le_of_ble_eq_true rfl) dX6_isLate_3 (fun H locs hH hS => ?_)
  refine lv_astore_n (lv' := [(3, .ref (ga g [11, c, 0])), (0, .ref (ga g [0])), (1, .int (nI c)), (2, .int (nI j))]) hx hb dX6_isLate_6 rfl hl (by decide) rfl (fun ls hl => ?_)
  refine lv_aload_n hx hb dX6_isLate_7 rfl (lv_at hl 0 rfl) ?_
  refine lv_iload_n hx hb dX6_isLate_8 rfl (lv_at hl 3 rfl) ?_
  refine x_V1 hx hb hml hown hE hS hl.1 cyX0_isActiveTask tw684 (c_X0_isActiveTask l g h I n c (gX I c) (Or.inl hc) (sPl h c) rfl hpp hWp j (by omega) hch) ⟨Nat.le_of_ble_eq_true rfl, Nat.le_of_ble_eq_true rfl⟩ ⟨Nat.le_of_ble_eq_true rfl, Nat.le_of_ble_eq_true rfl⟩ (x_recv hK hH (id := [11, c, 0]) (by first | trivial | (simp only [xD]; omega) | (simp [xD]; done) | (simp [xD]; omega)) (ci := 0) rfl (by decide) rfl) hH rfl rfl (Nat.le_of_ble_eq_true rfl) dX6_isLate_9 (fun H locs hH hS => ?_)
  refine lv_if_eq (tgt := 27) hx hb dX6_isLate_12 (by decide) (fun c_12 => ?_) (fun c_12 => ?_)
  · skip
    refine lv_iconst (v := 0) hx hb dX6_isLate_27 (by decide) ?_
    exact x_zret hx hb hr hlocks hS dX6_isLate_28 rfl (b01_f (by rw [sLte, (b01_eq0 _).mp c_12]; rfl)) (by rw [sX_get] at hH; exact hH)
  · skip
    refine lv_aload_n hx hb dX6_isLate_15 rfl (lv_at hl 0 rfl) ?_
    refine lv_iload_n hx hb dX6_isLate_16 rfl (lv_at hl 3 rfl) ?_
    refine x_V1 hx hb hml hown hE hS hl.1 cyX0_daysUntilLate tw685 (c_X0_daysUntilLate l g h I n c (gX I c) (Or.inl hc) (sPl h c) rfl hpp hWp j (by omega)) ⟨Nat.le_of_ble_eq_true rfl, Nat.le_of_ble_eq_true rfl⟩ ⟨Nat.le_of_ble_eq_true rfl, Nat.le_of_ble_eq_true rfl⟩ (x_recv hK hH (id := [11, c, 0]) (by first | trivial | (simp only [xD]; omega) | (simp [xD]; done) | (simp [xD]; omega)) (ci := 0) rfl (by decide) rfl) hH rfl rfl (Nat.le_of_ble_eq_true rfl) dX6_isLate_17 (fun H locs hH hS => ?_)
    refine lv_if_gt (tgt := 27) hx hb dX6_isLate_20 (by decide) (fun c_20 => ?_) (fun c_20 => ?_)
    · skip
      refine lv_iconst (v := 0) hx hb dX6_isLate_27 (by decide) ?_
      exact x_zret hx hb hr hlocks hS dX6_isLate_28 rfl (b01_f (by rw [sLte, b01_ne0 c_12, decide_eq_false (i_lt_nle c_20)]; rfl)) (by rw [sX_get] at hH; exact hH)
    · skip
      refine lv_iconst (v := 1) hx hb dX6_isLate_23 (by decide) ?_
      refine lv_goto (tgt := 28) hx hb dX6_isLate_24 (by decide) ?_
      exact x_zret hx hb hr hlocks hS dX6_isLate_28 rfl (b01_t (by rw [sLte, b01_ne0 c_12, decide_eq_true (Int32.not_lt.mp c_20)]; rfl)) (by rw [sX_get] at hH; exact hH)

set_option maxHeartbeats 1000000 in
set_option maxRecDepth 100000 in
theorem c_X6_active (l : Launch) (g : xG) (h : xS) (I : xI) (n : Nat) (hW : xWs0 h I) (hC : xWc h I) (c : Nat) (hc : c < sNc h)  : xM l yX6_active (xws yX6_active cX6_active 2 (some FieldType.int)) 3 56 g [.ref (ga g [0]), .int (nI c)] (xR g (xD h) I (xFh h) n) (some (.int (nI (sCnt (gX I c) 97 (sSz h (sPl h c)))))) (xR g (xD h) I (xFh h) n) 0 0 := by
  refine xM.of (by decide) (Nat.le_of_ble_eq_true rfl) ?_
  intro P_ e_ s m_ bl_ mt_ cd_ ls hx hb hr hown hlocks hml hnm hE hK hts hH hS hl
  have hl : lv_has ls 2 [(0, .ref (ga g [0])), (1, .int (nI c))] := hl
  have hpp := (hC.2.2 c hc).1
  have hch := (hC.2.2 c hc).2
  have hWp := hW.2.2 _ hpp
  have h4 := hC.1
  have h3 := hW.1
  have h8 := hWp.1
  rw [← sX_get I c] at hH
  refine lv_aload_n hx hb dX6_active_0 rfl (lv_at hl 0 rfl) ?_
  refine lv_iload_n hx hb dX6_active_1 rfl (lv_at hl 1 rfl) ?_
  refine x_V1 hx hb hml hown hE hS hl.1 cyX6_existingCase tw571 (c_X6_existingCase l g h (sX I c (gX I c)) n c hc h4 hC.2.1) ⟨Nat.le_of_ble_eq_true rfl, Nat.le_of_ble_eq_true rfl⟩ ⟨Nat.le_of_ble_eq_true rfl, Nat.le_of_ble_eq_true rfl⟩ (x_recv hK hH (id := [0]) (by first | trivial | (simp only [xD]; omega) | (simp [xD]; done) | (simp [xD]; omega)) (ci := 6) rfl (by decide) rfl) hH rfl rfl (Nat.le_of_ble_eq_true rfl) dX6_active_2 (fun H locs hH hS => ?_)
  refine lv_bipush (v := 97) hx hb dX6_active_5 (by decide) ?_
  refine x_V1 hx hb hml hown hE hS hl.1 cyX0_stepsInState tw719 (c_X0_stepsInState l g h I n c (gX I c) (Or.inl hc) (sPl h c) rfl hpp hWp 97 hch) ⟨Nat.le_of_ble_eq_true rfl, Nat.le_of_ble_eq_true rfl⟩ ⟨Nat.le_of_ble_eq_true rfl, Nat.le_of_ble_eq_true rfl⟩ (x_recv hK hH (id := [11, c, 0]) (by first | trivial | (simp only [xD]; omega) | (simp [xD]; done) | (simp [xD]; omega)) (ci := 0) rfl (by decide) rfl) hH rfl rfl (Nat.le_of_ble_eq_true rfl) dX6_active_7 (fun H locs hH hS => ?_)
  exact x_iret hx hb hr hlocks hS dX6_active_10 rfl (by rw [sX_get] at hH; exact hH)

set_option maxHeartbeats 1000000 in
set_option maxRecDepth 100000 in
theorem c_X6_isOver (l : Launch) (g : xG) (h : xS) (I : xI) (n : Nat) (hW : xWs0 h I) (hC : xWc h I) (c : Nat) (hc : c < sNc h)  : xM l yX6_isOver (xws yX6_isOver cX6_isOver 2 (some FieldType.boolean)) 3 55 g [.ref (ga g [0]), .int (nI c)] (xR g (xD h) I (xFh h) n) (some (.int (b01 (sOvr (vP I (sPl h c)) (gX I c) (sSz h (sPl h c)))))) (xR g (xD h) I (xFh h) n) 0 0 := by
  refine xM.of (by decide) (Nat.le_of_ble_eq_true rfl) ?_
  intro P_ e_ s m_ bl_ mt_ cd_ ls hx hb hr hown hlocks hml hnm hE hK hts hH hS hl
  have hl : lv_has ls 2 [(0, .ref (ga g [0])), (1, .int (nI c))] := hl
  have hpp := (hC.2.2 c hc).1
  have hch := (hC.2.2 c hc).2
  have hWp := hW.2.2 _ hpp
  have h4 := hC.1
  have h3 := hW.1
  have h8 := hWp.1
  rw [← sX_get I c] at hH
  refine lv_aload_n hx hb dX6_isOver_0 rfl (lv_at hl 0 rfl) ?_
  refine lv_iload_n hx hb dX6_isOver_1 rfl (lv_at hl 1 rfl) ?_
  refine x_V1 hx hb hml hown hE hS hl.1 cyX6_existingCase tw571 (c_X6_existingCase l g h (sX I c (gX I c)) n c hc h4 hC.2.1) ⟨Nat.le_of_ble_eq_true rfl, Nat.le_of_ble_eq_true rfl⟩ ⟨Nat.le_of_ble_eq_true rfl, Nat.le_of_ble_eq_true rfl⟩ (x_recv hK hH (id := [0]) (by first | trivial | (simp only [xD]; omega) | (simp [xD]; done) | (simp [xD]; omega)) (ci := 6) rfl (by decide) rfl) hH rfl rfl (Nat.le_of_ble_eq_true rfl) dX6_isOver_2 (fun H locs hH hS => ?_)
  refine x_V1 hx hb hml hown hE hS hl.1 cyX0_isAtItsEnd tw727 (c_X0_isAtItsEnd l g h I n c (gX I c) (Or.inl hc) (sPl h c) rfl hpp hWp hch) ⟨Nat.le_of_ble_eq_true rfl, Nat.le_of_ble_eq_true rfl⟩ ⟨Nat.le_of_ble_eq_true rfl, Nat.le_of_ble_eq_true rfl⟩ (x_recv hK hH (id := [11, c, 0]) (by first | trivial | (simp only [xD]; omega) | (simp [xD]; done) | (simp [xD]; omega)) (ci := 0) rfl (by decide) rfl) hH rfl rfl (Nat.le_of_ble_eq_true rfl) dX6_isOver_5 (fun H locs hH hS => ?_)
  exact x_zret hx hb hr hlocks hS dX6_isOver_8 (b01_nar _) rfl (by rw [sX_get] at hH; exact hH)

set_option maxHeartbeats 1000000 in
set_option maxRecDepth 100000 in
theorem c_X6_daysLeft (l : Launch) (g : xG) (h : xS) (I : xI) (n : Nat) (hW : xWs0 h I) (hC : xWc h I) (c : Nat) (hc : c < sNc h) (hf : ¬ (sFew (vP I (sPl h c)) (gX I c) (sSz h (sPl h c))) = -1) : xM l yX6_daysLeft (xws yX6_daysLeft cX6_daysLeft 3 (some FieldType.int)) 4 78 g [.ref (ga g [0]), .int (nI c)] (xR g (xD h) I (xFh h) n) (some (.int (sFew (vP I (sPl h c)) (gX I c) (sSz h (sPl h c))))) (xR g (xD h) I (xFh h) n) 0 0 := by
  refine xM.of (by decide) (Nat.le_of_ble_eq_true rfl) ?_
  intro P_ e_ s m_ bl_ mt_ cd_ ls hx hb hr hown hlocks hml hnm hE hK hts hH hS hl
  have hl : lv_has ls 3 [(0, .ref (ga g [0])), (1, .int (nI c))] := hl
  have hpp := (hC.2.2 c hc).1
  have hch := (hC.2.2 c hc).2
  have hWp := hW.2.2 _ hpp
  have h4 := hC.1
  have h3 := hW.1
  have h8 := hWp.1
  rw [← sX_get I c] at hH
  refine lv_aload_n hx hb dX6_daysLeft_0 rfl (lv_at hl 0 rfl) ?_
  refine lv_iload_n hx hb dX6_daysLeft_1 rfl (lv_at hl 1 rfl) ?_
  refine x_V1 hx hb hml hown hE hS hl.1 cyX6_existingCase tw571 (c_X6_existingCase l g h (sX I c (gX I c)) n c hc h4 hC.2.1) ⟨Nat.le_of_ble_eq_true rfl, Nat.le_of_ble_eq_true rfl⟩ ⟨Nat.le_of_ble_eq_true rfl, Nat.le_of_ble_eq_true rfl⟩ (x_recv hK hH (id := [0]) (by first | trivial | (simp only [xD]; omega) | (simp [xD]; done) | (simp [xD]; omega)) (ci := 6) rfl (by decide) rfl) hH rfl rfl (Nat.le_of_ble_eq_true rfl) dX6_daysLeft_2 (fun H locs hH hS => ?_)
  refine x_V1 hx hb hml hown hE hS hl.1 cyX0_fewestDaysUntilLate tw755 (c_X0_fewestDaysUntilLate l g h I n c (gX I c) (Or.inl hc) (sPl h c) rfl hpp hWp hch) ⟨Nat.le_of_ble_eq_true rfl, Nat.le_of_ble_eq_true rfl⟩ ⟨Nat.le_of_ble_eq_true rfl, Nat.le_of_ble_eq_true rfl⟩ (x_recv hK hH (id := [11, c, 0]) (by first | trivial | (simp only [xD]; omega) | (simp [xD]; done) | (simp [xD]; omega)) (ci := 0) rfl (by decide) rfl) hH rfl rfl (Nat.le_of_ble_eq_true rfl) dX6_daysLeft_5 (fun H locs hH hS => ?_)
  refine lv_istore_n (lv' := [(2, .int (sFew (vP I (sPl h c)) (gX I c) (sSz h (sPl h c)))), (0, .ref (ga g [0])), (1, .int (nI c))]) hx hb dX6_daysLeft_8 rfl hl (by decide) rfl (fun ls hl => ?_)
  refine lv_iload_n hx hb dX6_daysLeft_9 rfl (lv_at hl 0 rfl) ?_
  refine lv_iconst (v := (-1)) hx hb dX6_daysLeft_10 (by decide) ?_
  refine lv_icmp_ne (tgt := 24) hx hb dX6_daysLeft_11 (by decide) (fun _ => ?_) (fun q_ => absurd q_ hf)
  refine lv_iload_n hx hb dX6_daysLeft_24 rfl (lv_at hl 0 rfl) ?_
  exact x_iret hx hb hr hlocks hS dX6_daysLeft_25 rfl (by rw [sX_get] at hH; exact hH)

set_option maxHeartbeats 1000000 in
set_option maxRecDepth 100000 in
theorem c_X6_datum (l : Launch) (g : xG) (h : xS) (I : xI) (n : Nat) (hW : xWs0 h I) (hC : xWc h I) (c : Nat) (hc : c < sNc h) (k : Nat) (hk : k < 4) : xM l yX6_datum (xws yX6_datum cX6_datum 4 (some FieldType.int)) 3 55 g [.ref (ga g [0]), .int (nI c), .int (nI k)] (xR g (xD h) I (xFh h) n) (some (.int (I [11, c, 1] k))) (xR g (xD h) I (xFh h) n) 0 0 := by
  refine xM.of (by decide) (Nat.le_of_ble_eq_true rfl) ?_
  intro P_ e_ s m_ bl_ mt_ cd_ ls hx hb hr hown hlocks hml hnm hE hK hts hH hS hl
  have hl : lv_has ls 4 [(0, .ref (ga g [0])), (1, .int (nI c)), (2, .int (nI k))] := hl
  have hpp := (hC.2.2 c hc).1
  have hch := (hC.2.2 c hc).2
  have hWp := hW.2.2 _ hpp
  have h4 := hC.1
  have h3 := hW.1
  have h8 := hWp.1
  rw [← sX_get I c] at hH
  refine lv_aload_n hx hb dX6_datum_0 rfl (lv_at hl 0 rfl) ?_
  refine lv_iload_n hx hb dX6_datum_1 rfl (lv_at hl 1 rfl) ?_
  refine x_V1 hx hb hml hown hE hS hl.1 cyX6_existingCase tw571 (c_X6_existingCase l g h (sX I c (gX I c)) n c hc h4 hC.2.1) ⟨Nat.le_of_ble_eq_true rfl, Nat.le_of_ble_eq_true rfl⟩ ⟨Nat.le_of_ble_eq_true rfl, Nat.le_of_ble_eq_true rfl⟩ (x_recv hK hH (id := [0]) (by first | trivial | (simp only [xD]; omega) | (simp [xD]; done) | (simp [xD]; omega)) (ci := 6) rfl (by decide) rfl) hH rfl rfl (Nat.le_of_ble_eq_true rfl) dX6_datum_2 (fun H locs hH hS => ?_)
  refine lv_astore_n (lv' := [(3, .ref (ga g [11, c, 0])), (0, .ref (ga g [0])), (1, .int (nI c)), (2, .int (nI k))]) hx hb dX6_datum_5 rfl hl (by decide) rfl (fun ls hl => ?_)
  refine lv_iload_n hx hb dX6_datum_6 rfl (lv_at hl 3 rfl) ?_
  refine x_S1 hx hb hml hown hE hS hl.1 cyX6_isDatum tw383 (c_X6_isDatum l g h (sX I c (gX I c)) n (nI k)) ⟨Nat.le_of_ble_eq_true rfl, Nat.le_of_ble_eq_true rfl⟩ ⟨Nat.le_of_ble_eq_true rfl, Nat.le_of_ble_eq_true rfl⟩ hH rfl rfl (Nat.le_of_ble_eq_true rfl) dX6_datum_7 (fun H locs hH hS => ?_)
  refine lv_if_ne (tgt := 23) hx hb dX6_datum_10 (by decide) (fun _ => ?_) (fun q_ => absurd q_ (by rw [show sIn (nI k) 0 4 = true from sIn_nI (N := 4) hk (by omega)]; decide))
  refine lv_aload_n hx hb dX6_datum_23 rfl (lv_at hl 0 rfl) ?_
  refine lv_iload_n hx hb dX6_datum_24 rfl (lv_at hl 3 rfl) ?_
  refine x_V1 hx hb hml hown hE hS hl.1 cyX0_valueOf tw582 (c_X0_valueOf l g h I n c (gX I c) (Or.inl hc) k hk) ⟨Nat.le_of_ble_eq_true rfl, Nat.le_of_ble_eq_true rfl⟩ ⟨Nat.le_of_ble_eq_true rfl, Nat.le_of_ble_eq_true rfl⟩ (x_recv hK hH (id := [11, c, 0]) (by first | trivial | (simp only [xD]; omega) | (simp [xD]; done) | (simp [xD]; omega)) (ci := 0) rfl (by decide) rfl) hH rfl rfl (Nat.le_of_ble_eq_true rfl) dX6_datum_25 (fun H locs hH hS => ?_)
  exact x_iret hx hb hr hlocks hS dX6_datum_28 rfl (by rw [sX_get] at hH; exact hH)

def sShr (a n : Nat) : UInt32 := FP.fdiv (FP.i2f (nI a)) (FP.i2f (nI n))
theorem sCnt_le (X : xX) (v : Int32) : ∀ n, sCnt X v n ≤ n
  | 0 => Nat.le_refl 0
  | n + 1 => by
    have := sCnt_le X v n
    show sCnt X v n + (if X 2 n = v then 1 else 0) ≤ n + 1
    split <;> omega
theorem sShr_n0 : ∀ n, n < 9 → ∀ a, a < 9 → 0 < n → vf_n32 (sShr a n) := by
  show ∀ n, n < 9 → ∀ a, a < 9 → 0 < n → sShr a n &&& 0x7fffffff ≤ 0x7f800000
  decide +kernel
theorem sShr_n {n a : Nat} (h : a ≤ n) (h8 : n ≤ 8) (h0 : 0 < n) : vf_n32 (sShr a n) := sShr_n0 n (by omega) a (by omega) h0
set_option maxHeartbeats 1000000 in
set_option maxRecDepth 100000 in
theorem c_X6_doneShare (l : Launch) (g : xG) (h : xS) (I : xI) (n : Nat) (hW : xWs0 h I) (hC : xWc h I) (c : Nat) (hc : c < sNc h) (hz0 : 0 < sSz h (sPl h c)) : xM l yX6_doneShare (xws yX6_doneShare cX6_doneShare 4 (some FieldType.float)) 3 56 g [.ref (ga g [0]), .int (nI c)] (xR g (xD h) I (xFh h) n) (some (.float (sShr (sCnt (gX I c) 99 (sSz h (sPl h c))) (sSz h (sPl h c))))) (xR g (xD h) I (xFh h) n) 0 0 := by
  refine xM.of (by decide) (Nat.le_of_ble_eq_true rfl) ?_
  intro P_ e_ s m_ bl_ mt_ cd_ ls hx hb hr hown hlocks hml hnm hE hK hts hH hS hl
  have hl : lv_has ls 4 [(0, .ref (ga g [0])), (1, .int (nI c))] := hl
  have hpp := (hC.2.2 c hc).1
  have hch := (hC.2.2 c hc).2
  have hWp := hW.2.2 _ hpp
  have h4 := hC.1
  have h3 := hW.1
  have h8 := hWp.1
  rw [← sX_get I c] at hH
  refine lv_aload_n hx hb dX6_doneShare_0 rfl (lv_at hl 0 rfl) ?_
  refine lv_iload_n hx hb dX6_doneShare_1 rfl (lv_at hl 1 rfl) ?_
  refine x_V1 hx hb hml hown hE hS hl.1 cyX6_existingCase tw571 (c_X6_existingCase l g h (sX I c (gX I c)) n c hc h4 hC.2.1) ⟨Nat.le_of_ble_eq_true rfl, Nat.le_of_ble_eq_true rfl⟩ ⟨Nat.le_of_ble_eq_true rfl, Nat.le_of_ble_eq_true rfl⟩ (x_recv hK hH (id := [0]) (by first | trivial | (simp only [xD]; omega) | (simp [xD]; done) | (simp [xD]; omega)) (ci := 6) rfl (by decide) rfl) hH rfl rfl (Nat.le_of_ble_eq_true rfl) dX6_doneShare_2 (fun H locs hH hS => ?_)
  refine lv_astore_n (lv' := [(2, .ref (ga g [11, c, 0])), (0, .ref (ga g [0])), (1, .int (nI c))]) hx hb dX6_doneShare_5 rfl hl (by decide) rfl (fun ls hl => ?_)
  refine lv_aload_n hx hb dX6_doneShare_6 rfl (lv_at hl 0 rfl) ?_
  refine x_get (C := RX0) (T := TX0) (N := 11) (ci := 0) hx hb hts iu0 hown hK hH (id := [11, c, 0]) (by first | trivial | (simp only [xD]; omega) | (simp [xD]; done) | (simp [xD]; omega)) rfl rfl (by decide) 0 (by decide) (hts _ tw91) (fun _ h9 => h9) (sX_at _ _ _ _) (v := .ref (ga g [5, sPl h c])) rfl dX6_doneShare_7 ?_
  refine x_get (C := RX4) (T := TX4) (N := 4) (ci := 4) hx hb hts iu4 hown hK hH (id := [5, sPl h c]) (by first | trivial | (simp only [xD]; omega) | (simp [xD]; done) | (simp [xD]; omega)) rfl rfl (by decide) 2 (by decide) (hts _ tw73) (fun _ h9 => h9) rfl (v := .int (nI (sSz h (sPl h c)))) (congrArg Value.int hWp.2.2.1) dX6_doneShare_10 ?_
  refine lv_istore_n (lv' := [(3, .int (nI (sSz h (sPl h c)))), (2, .ref (ga g [11, c, 0])), (0, .ref (ga g [0])), (1, .int (nI c))]) hx hb dX6_doneShare_13 rfl hl (by decide) rfl (fun ls hl => ?_)
  refine lv_iload_n hx hb dX6_doneShare_14 rfl (lv_at hl 0 rfl) ?_
  refine lv_if_gt (tgt := 20) hx hb dX6_doneShare_15 (by decide) (fun _ => ?_) (fun q_ => absurd ((nI_ltI (a := 0) (b := (sSz h (sPl h c))) (by omega) (by omega)).mpr (by omega)) q_)
  refine lv_aload_n hx hb dX6_doneShare_20 rfl (lv_at hl 1 rfl) ?_
  refine lv_bipush (v := 99) hx hb dX6_doneShare_21 (by decide) ?_
  refine x_V1 hx hb hml hown hE hS hl.1 cyX0_stepsInState tw719 (c_X0_stepsInState l g h I n c (gX I c) (Or.inl hc) (sPl h c) rfl hpp hWp 99 hch) ⟨Nat.le_of_ble_eq_true rfl, Nat.le_of_ble_eq_true rfl⟩ ⟨Nat.le_of_ble_eq_true rfl, Nat.le_of_ble_eq_true rfl⟩ (x_recv hK hH (id := [11, c, 0]) (by first | trivial | (simp only [xD]; omega) | (simp [xD]; done) | (simp [xD]; omega)) (ci := 0) rfl (by decide) rfl) hH rfl rfl (Nat.le_of_ble_eq_true rfl) dX6_doneShare_23 (fun H locs hH hS => ?_)
  refine lv_i2f hx hb dX6_doneShare_26 ?_
  refine lv_iload_n hx hb dX6_doneShare_27 rfl (lv_at hl 0 rfl) ?_
  refine lv_i2f hx hb dX6_doneShare_28 ?_
  refine lv_fdiv hx hb dX6_doneShare_29 (sShr_n (sCnt_le _ _ _) h8 hz0) ?_
  exact x_fret hx hb hr hlocks hS dX6_doneShare_30 rfl (by rw [sX_get] at hH; exact hH)

set_option maxHeartbeats 1000000 in
set_option maxRecDepth 100000 in
theorem c_X6_holds (l : Launch) (g : xG) (h : xS) (I : xI) (n : Nat) (hW : xWs0 h I) (hC : xWc h I) (c : Nat) (hc : c < sNc h) (j : Nat) (hj : j < sSz h (sPl h c)) (w k : Nat) (hw : w < 2) (hk : k < sCn h (sPl h c) j w) (f : Int32) (hf : (f = 0 ∧ w = 1) ∨ (¬ f = 0 ∧ w = 0))  : xM l yX6_holds (xws yX6_holds cX6_holds 9 (some FieldType.boolean)) 3 55 g [.ref (ga g [0]), .int (nI c), .int (nI j), .int f, .int (nI k)] (xR g (xD h) I (xFh h) n) (some (.int (b01 (sMet (I [10, sPl h c, j, w, k]) (gX I c))))) (xR g (xD h) I (xFh h) n) 0 0 := by
  refine xM.of (by decide) (Nat.le_of_ble_eq_true rfl) ?_
  intro P_ e_ s m_ bl_ mt_ cd_ ls hx hb hr hown hlocks hml hnm hE hK hts hH hS hl
  have hl : lv_has ls 9 [(0, .ref (ga g [0])), (1, .int (nI c)), (2, .int (nI j)), (3, .int f), (4, .int (nI k))] := hl
  have hpp := (hC.2.2 c hc).1
  have hch := (hC.2.2 c hc).2
  have hWp := hW.2.2 _ hpp
  have h4 := hC.1
  have h3 := hW.1
  have h8 := hWp.1
  rw [← sX_get I c] at hH
  have hws := hWp.2.2.2 j hj
  rcases hf with ⟨hf, hw1⟩ | ⟨hf, hw1⟩ <;> subst hw1
  · skip
    refine lv_aload_n hx hb dX6_holds_0 rfl (lv_at hl 0 rfl) ?_
    refine lv_iload_n hx hb dX6_holds_1 rfl (lv_at hl 1 rfl) ?_
    refine x_V1 hx hb hml hown hE hS hl.1 cyX6_existingCase tw571 (c_X6_existingCase l g h (sX I c (gX I c)) n c hc h4 hC.2.1) ⟨Nat.le_of_ble_eq_true rfl, Nat.le_of_ble_eq_true rfl⟩ ⟨Nat.le_of_ble_eq_true rfl, Nat.le_of_ble_eq_true rfl⟩ (x_recv hK hH (id := [0]) (by first | trivial | (simp only [xD]; omega) | (simp [xD]; done) | (simp [xD]; omega)) (ci := 6) rfl (by decide) rfl) hH rfl rfl (Nat.le_of_ble_eq_true rfl) dX6_holds_2 (fun H locs hH hS => ?_)
    refine lv_astore (lv' := [(5, .ref (ga g [11, c, 0])), (0, .ref (ga g [0])), (1, .int (nI c)), (2, .int (nI j)), (3, .int f), (4, .int (nI k))]) hx hb dX6_holds_5 hl (by decide) rfl (fun ls hl => ?_)
    refine lv_aload hx hb dX6_holds_7 (lv_at hl 0 rfl) ?_
    refine x_get (C := RX0) (T := TX0) (N := 11) (ci := 0) hx hb hts iu0 hown hK hH (id := [11, c, 0]) (by first | trivial | (simp only [xD]; omega) | (simp [xD]; done) | (simp [xD]; omega)) rfl rfl (by decide) 0 (by decide) (hts _ tw91) (fun _ h9 => h9) (sX_at _ _ _ _) (v := .ref (ga g [5, sPl h c])) rfl dX6_holds_9 ?_
    refine lv_iload_n hx hb dX6_holds_12 rfl (lv_at hl 3 rfl) ?_
    refine x_S1 hx hb hml hown hE hS hl.1 cyX6_existingStep tw372 (c_X6_existingStep l g h (sX I c (gX I c)) n (sPl h c) j hpp hj h8 hWp.2.2.1) ⟨Nat.le_of_ble_eq_true rfl, Nat.le_of_ble_eq_true rfl⟩ ⟨Nat.le_of_ble_eq_true rfl, Nat.le_of_ble_eq_true rfl⟩ hH rfl rfl (Nat.le_of_ble_eq_true rfl) dX6_holds_13 (fun H locs hH hS => ?_)
    refine lv_astore (lv' := [(6, .ref (ga g [7, sPl h c, j])), (5, .ref (ga g [11, c, 0])), (0, .ref (ga g [0])), (1, .int (nI c)), (2, .int (nI j)), (3, .int f), (4, .int (nI k))]) hx hb dX6_holds_16 hl (by decide) rfl (fun ls hl => ?_)
    refine lv_iload_n hx hb dX6_holds_18 rfl (lv_at hl 5 rfl) ?_
    refine lv_if_eq (tgt := 30) hx hb dX6_holds_19 (by decide) (fun _ => ?_) (fun q_ => absurd hf q_)
    refine lv_aload hx hb dX6_holds_30 (lv_at hl 0 rfl) ?_
    refine x_get (C := RX5) (T := TX5) (N := 7) (ci := 5) hx hb hts iu5 hown hK hH (id := [7, sPl h c, j]) (by first | trivial | (simp only [xD]; omega) | (simp [xD]; done) | (simp [xD]; omega)) rfl rfl (by decide) 3 (by decide) (hts _ tw334) (fun _ h9 => h9) rfl (v := .ref (ga g [8, sPl h c, j, 1])) rfl dX6_holds_32 ?_
    refine lv_astore (lv' := [(7, .ref (ga g [8, sPl h c, j, 1])), (6, .ref (ga g [7, sPl h c, j])), (5, .ref (ga g [11, c, 0])), (0, .ref (ga g [0])), (1, .int (nI c)), (2, .int (nI j)), (3, .int f), (4, .int (nI k))]) hx hb dX6_holds_35 hl (by decide) rfl (fun ls hl => ?_)
    refine lv_aload hx hb dX6_holds_37 (lv_at hl 0 rfl) ?_
    refine lv_iload hx hb dX6_holds_39 (lv_at hl 7 rfl) ?_
    refine x_V1 hx hb hml hown hE hS hl.1 cyX2_at tw694 (c_X2_at l g h (sX I c (gX I c)) n (sPl h c) j 1 k hpp hj (by decide) hk (hws.2.2 1 (by decide)).2.1 (hws.2.2 1 (by decide)).1) ⟨Nat.le_of_ble_eq_true rfl, Nat.le_of_ble_eq_true rfl⟩ ⟨Nat.le_of_ble_eq_true rfl, Nat.le_of_ble_eq_true rfl⟩ (x_recv hK hH (id := [8, sPl h c, j, 1]) (by first | trivial | (simp only [xD]; omega) | (simp [xD]; done) | (simp [xD]; omega)) (ci := 2) rfl (by decide) rfl) hH rfl rfl (Nat.le_of_ble_eq_true rfl) dX6_holds_41 (fun H locs hH hS => ?_)
    refine lv_astore (lv' := [(8, .ref (ga g [10, sPl h c, j, 1, k])), (7, .ref (ga g [8, sPl h c, j, 1])), (6, .ref (ga g [7, sPl h c, j])), (5, .ref (ga g [11, c, 0])), (0, .ref (ga g [0])), (1, .int (nI c)), (2, .int (nI j)), (3, .int f), (4, .int (nI k))]) hx hb dX6_holds_44 hl (by decide) rfl (fun ls hl => ?_)
    refine lv_aload hx hb dX6_holds_46 (lv_at hl 0 rfl) ?_
    refine lv_ifnonnull (tgt := 61) hx hb dX6_holds_48 (by decide) ?_
    refine lv_aload hx hb dX6_holds_61 (lv_at hl 3 rfl) ?_
    refine lv_aload hx hb dX6_holds_63 (lv_at hl 0 rfl) ?_
    refine x_V1 hx hb hml hown hE hS hl.1 cyX0_isMet tw711 (c_X0_isMet l g h I n c (gX I c) (Or.inl hc) (sPl h c) j 1 k hpp hj h8 (by decide) hk ((hws.2.2 1 (by decide)).2.2 k hk)) ⟨Nat.le_of_ble_eq_true rfl, Nat.le_of_ble_eq_true rfl⟩ ⟨Nat.le_of_ble_eq_true rfl, Nat.le_of_ble_eq_true rfl⟩ (x_recv hK hH (id := [11, c, 0]) (by first | trivial | (simp only [xD]; omega) | (simp [xD]; done) | (simp [xD]; omega)) (ci := 0) rfl (by decide) rfl) hH rfl rfl (Nat.le_of_ble_eq_true rfl) dX6_holds_65 (fun H locs hH hS => ?_)
    exact x_zret hx hb hr hlocks hS dX6_holds_68 (b01_nar _) rfl (by rw [sX_get] at hH; exact hH)
  · skip
    refine lv_aload_n hx hb dX6_holds_0 rfl (lv_at hl 0 rfl) ?_
    refine lv_iload_n hx hb dX6_holds_1 rfl (lv_at hl 1 rfl) ?_
    refine x_V1 hx hb hml hown hE hS hl.1 cyX6_existingCase tw571 (c_X6_existingCase l g h (sX I c (gX I c)) n c hc h4 hC.2.1) ⟨Nat.le_of_ble_eq_true rfl, Nat.le_of_ble_eq_true rfl⟩ ⟨Nat.le_of_ble_eq_true rfl, Nat.le_of_ble_eq_true rfl⟩ (x_recv hK hH (id := [0]) (by first | trivial | (simp only [xD]; omega) | (simp [xD]; done) | (simp [xD]; omega)) (ci := 6) rfl (by decide) rfl) hH rfl rfl (Nat.le_of_ble_eq_true rfl) dX6_holds_2 (fun H locs hH hS => ?_)
    refine lv_astore (lv' := [(5, .ref (ga g [11, c, 0])), (0, .ref (ga g [0])), (1, .int (nI c)), (2, .int (nI j)), (3, .int f), (4, .int (nI k))]) hx hb dX6_holds_5 hl (by decide) rfl (fun ls hl => ?_)
    refine lv_aload hx hb dX6_holds_7 (lv_at hl 0 rfl) ?_
    refine x_get (C := RX0) (T := TX0) (N := 11) (ci := 0) hx hb hts iu0 hown hK hH (id := [11, c, 0]) (by first | trivial | (simp only [xD]; omega) | (simp [xD]; done) | (simp [xD]; omega)) rfl rfl (by decide) 0 (by decide) (hts _ tw91) (fun _ h9 => h9) (sX_at _ _ _ _) (v := .ref (ga g [5, sPl h c])) rfl dX6_holds_9 ?_
    refine lv_iload_n hx hb dX6_holds_12 rfl (lv_at hl 3 rfl) ?_
    refine x_S1 hx hb hml hown hE hS hl.1 cyX6_existingStep tw372 (c_X6_existingStep l g h (sX I c (gX I c)) n (sPl h c) j hpp hj h8 hWp.2.2.1) ⟨Nat.le_of_ble_eq_true rfl, Nat.le_of_ble_eq_true rfl⟩ ⟨Nat.le_of_ble_eq_true rfl, Nat.le_of_ble_eq_true rfl⟩ hH rfl rfl (Nat.le_of_ble_eq_true rfl) dX6_holds_13 (fun H locs hH hS => ?_)
    refine lv_astore (lv' := [(6, .ref (ga g [7, sPl h c, j])), (5, .ref (ga g [11, c, 0])), (0, .ref (ga g [0])), (1, .int (nI c)), (2, .int (nI j)), (3, .int f), (4, .int (nI k))]) hx hb dX6_holds_16 hl (by decide) rfl (fun ls hl => ?_)
    refine lv_iload_n hx hb dX6_holds_18 rfl (lv_at hl 5 rfl) ?_
    refine lv_if_eq (tgt := 30) hx hb dX6_holds_19 (by decide) (fun q_ => absurd q_ hf) (fun _ => ?_)
    refine lv_aload hx hb dX6_holds_22 (lv_at hl 0 rfl) ?_
    refine x_get (C := RX5) (T := TX5) (N := 7) (ci := 5) hx hb hts iu5 hown hK hH (id := [7, sPl h c, j]) (by first | trivial | (simp only [xD]; omega) | (simp [xD]; done) | (simp [xD]; omega)) rfl rfl (by decide) 2 (by decide) (hts _ tw331) (fun _ h9 => h9) rfl (v := .ref (ga g [8, sPl h c, j, 0])) rfl dX6_holds_24 ?_
    refine lv_goto (tgt := 35) hx hb dX6_holds_27 (by decide) ?_
    refine lv_astore (lv' := [(7, .ref (ga g [8, sPl h c, j, 0])), (6, .ref (ga g [7, sPl h c, j])), (5, .ref (ga g [11, c, 0])), (0, .ref (ga g [0])), (1, .int (nI c)), (2, .int (nI j)), (3, .int f), (4, .int (nI k))]) hx hb dX6_holds_35 hl (by decide) rfl (fun ls hl => ?_)
    refine lv_aload hx hb dX6_holds_37 (lv_at hl 0 rfl) ?_
    refine lv_iload hx hb dX6_holds_39 (lv_at hl 7 rfl) ?_
    refine x_V1 hx hb hml hown hE hS hl.1 cyX2_at tw694 (c_X2_at l g h (sX I c (gX I c)) n (sPl h c) j 0 k hpp hj (by decide) hk (hws.2.2 0 (by decide)).2.1 (hws.2.2 0 (by decide)).1) ⟨Nat.le_of_ble_eq_true rfl, Nat.le_of_ble_eq_true rfl⟩ ⟨Nat.le_of_ble_eq_true rfl, Nat.le_of_ble_eq_true rfl⟩ (x_recv hK hH (id := [8, sPl h c, j, 0]) (by first | trivial | (simp only [xD]; omega) | (simp [xD]; done) | (simp [xD]; omega)) (ci := 2) rfl (by decide) rfl) hH rfl rfl (Nat.le_of_ble_eq_true rfl) dX6_holds_41 (fun H locs hH hS => ?_)
    refine lv_astore (lv' := [(8, .ref (ga g [10, sPl h c, j, 0, k])), (7, .ref (ga g [8, sPl h c, j, 0])), (6, .ref (ga g [7, sPl h c, j])), (5, .ref (ga g [11, c, 0])), (0, .ref (ga g [0])), (1, .int (nI c)), (2, .int (nI j)), (3, .int f), (4, .int (nI k))]) hx hb dX6_holds_44 hl (by decide) rfl (fun ls hl => ?_)
    refine lv_aload hx hb dX6_holds_46 (lv_at hl 0 rfl) ?_
    refine lv_ifnonnull (tgt := 61) hx hb dX6_holds_48 (by decide) ?_
    refine lv_aload hx hb dX6_holds_61 (lv_at hl 3 rfl) ?_
    refine lv_aload hx hb dX6_holds_63 (lv_at hl 0 rfl) ?_
    refine x_V1 hx hb hml hown hE hS hl.1 cyX0_isMet tw711 (c_X0_isMet l g h I n c (gX I c) (Or.inl hc) (sPl h c) j 0 k hpp hj h8 (by decide) hk ((hws.2.2 0 (by decide)).2.2 k hk)) ⟨Nat.le_of_ble_eq_true rfl, Nat.le_of_ble_eq_true rfl⟩ ⟨Nat.le_of_ble_eq_true rfl, Nat.le_of_ble_eq_true rfl⟩ (x_recv hK hH (id := [11, c, 0]) (by first | trivial | (simp only [xD]; omega) | (simp [xD]; done) | (simp [xD]; omega)) (ci := 0) rfl (by decide) rfl) hH rfl rfl (Nat.le_of_ble_eq_true rfl) dX6_holds_65 (fun H locs hH hS => ?_)
    exact x_zret hx hb hr hlocks hS dX6_holds_68 (b01_nar _) rfl (by rw [sX_get] at hH; exact hH)
