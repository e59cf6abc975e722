/-! OUTCOMES: the reads -/
theorem LW.vw {h : xS} {I : xI} {jn : Nat} (hL : LW h I jn) {c : Nat} (hc : c < sNc h) (v : Int32) : up I [30] 0 v [20] 20 = nI (sNc h) ∧ up I [30] 0 v [20] 10 = nI (sNp h) ∧ up I [30] 0 v [24, 11] c = nI (sPl h c) ∧ mA h (up I [30] 0 v) (sPl h c) ∧ xWp h (up I [30] 0 v) (sPl h c) ∧ mW (up I [30] 0 v) c (gX I c) = up I [30] 0 v ∧ sPl h c < sNp h ∧ vP (up I [30] 0 v) (sPl h c) = vP I (sPl h c) ∧ I [24, 11] c = nI (sPl h c) ∧ I [24, 8] (sPl h c) = nI (sSz h (sPl h c)) ∧ sSz h (sPl h c) ≤ 8 := by
  have e : ∀ id, id ≠ [30] → up I [30] 0 v id = I id := fun id z => up_id z
  have eP : ∀ id, pL id = true → up I [30] 0 v id = I id := fun id hi => e id (by rintro rfl; cases hi)
  have hp := (hL.1.2.1.1.2.2 c hc).1
  obtain ⟨u, v1, v2, v3, v4, v5⟩ := hL.1.2.1.2.2.2.1 c hc
  have hA := (hL.1.1.2.2.1 _ hp).1
  exact ⟨by rw [e _ (by simp)]; exact hL.1.2.1.2.1, by rw [e _ (by simp)]; exact hL.1.1.2.1, by rw [e _ (by simp)]; exact v2, hA.sameL eP, (hL.1.1.1.2.2 _ hp).sameL eP, hL.1.view hc (fun id hi => e id (by rintro rfl; cases hi)), hp, vP_sameL eP _, v2, hA.1, (hL.1.1.1.2.2 _ hp).1⟩
set_option maxHeartbeats 1000000 in
theorem o_rounds {l : Launch} (hst : l.stackTraces = false) {g0 : xG} {a : List Nat → Nat} {h : xS} {I : xI} {n jn : Nat} (hL : LW h I jn) (x : Int32) : lwO l g0 a h I n jn yL_rounds cL_rounds 4 [(0, 9, 12, 19)] yX7_rounds cX7_rounds 2 FieldType.int [.int x] := by
  have hW := hL.1.1.1
  have hC := hL.1.2.1.1
  have h3 := hW.1
  have n4 := hC.1
  have hm := hL.1.2.1.2.1
  have hz := hL.1.1.2.1
  rcases sIn_cases (x := x) (q := sNc h) (by omega) with ⟨z1, z2⟩ | ⟨c, hc, rfl⟩
  · exact lwO.bad 1 0 (by decide) ⟨by omega, by omega, by omega, by omega⟩ (w_rounds_eIO l (setG g0 a) (xD h) I (xFh h) n _ _ x trivial (t_X6_rounds_c l hst (setG g0 a) h I n hC x z2)) (fun n' => c_X7_rounds_c l (setG g0 a) h I n' (sNc h) n4 hm x z1)
  · obtain ⟨u, w⟩ := hL.1.2.1.2.2.2.1 c hc
    have e : up I [30] 0 (I [11, c, 0] 9) [24, 18] c = (I [11, c, 0] 9) := by rw [up_id (by simp)]; exact u.2.2.2.2.2.2.1
    have k := c_X7_rounds l (setG g0 a) h (up I [30] 0 (I [11, c, 0] 9)) n (sNc h) n4 (by rw [up_id (by simp)]; exact hm) c hc
    rw [e] at k
    exact o_rd hL (I [11, c, 0] 9) ⟨by omega, by omega, by omega, by omega⟩ (w_rounds l (setG g0 a) (xD h) (xD h) I I (xFh h) (xFh h) n n _ _ 0 0 (nI c) (I [11, c, 0] 9) trivial trivial (c_X6_rounds l (setG g0 a) h I n hW hC c hc)) k
set_option maxHeartbeats 1000000 in
theorem o_days {l : Launch} (hst : l.stackTraces = false) {g0 : xG} {a : List Nat → Nat} {h : xS} {I : xI} {n jn : Nat} (hL : LW h I jn) (x : Int32) : lwO l g0 a h I n jn yL_days cL_days 4 [(0, 9, 12, 19)] yX7_days cX7_days 2 FieldType.int [.int x] := by
  have hW := hL.1.1.1
  have hC := hL.1.2.1.1
  have h3 := hW.1
  have n4 := hC.1
  have hm := hL.1.2.1.2.1
  have hz := hL.1.1.2.1
  rcases sIn_cases (x := x) (q := sNc h) (by omega) with ⟨z1, z2⟩ | ⟨c, hc, rfl⟩
  · exact lwO.bad 1 0 (by decide) ⟨by omega, by omega, by omega, by omega⟩ (w_days_eIO l (setG g0 a) (xD h) I (xFh h) n _ _ x trivial (t_X6_days_c l hst (setG g0 a) h I n hC x z2)) (fun n' => c_X7_days_c l (setG g0 a) h I n' (sNc h) n4 hm x z1)
  · obtain ⟨u, w⟩ := hL.1.2.1.2.2.2.1 c hc
    have e : up I [30] 0 (I [11, c, 0] 6) [24, 17] c = (I [11, c, 0] 6) := by rw [up_id (by simp)]; exact u.2.2.2.2.1
    have k := c_X7_days l (setG g0 a) h (up I [30] 0 (I [11, c, 0] 6)) n (sNc h) n4 (by rw [up_id (by simp)]; exact hm) c hc
    rw [e] at k
    exact o_rd hL (I [11, c, 0] 6) ⟨by omega, by omega, by omega, by omega⟩ (w_days l (setG g0 a) (xD h) (xD h) I I (xFh h) (xFh h) n n _ _ 0 0 (nI c) (I [11, c, 0] 6) trivial trivial (c_X6_days l (setG g0 a) h I n hW hC c hc)) k
set_option maxHeartbeats 1000000 in
theorem o_happened {l : Launch} (hst : l.stackTraces = false) {g0 : xG} {a : List Nat → Nat} {h : xS} {I : xI} {n jn : Nat} (hL : LW h I jn) (x : Int32) : lwO l g0 a h I n jn yL_happened cL_happened 4 [(0, 9, 12, 19)] yX7_happened cX7_happened 2 FieldType.int [.int x] := by
  have hW := hL.1.1.1
  have hC := hL.1.2.1.1
  have h3 := hW.1
  have n4 := hC.1
  have hm := hL.1.2.1.2.1
  have hz := hL.1.1.2.1
  rcases sIn_cases (x := x) (q := sNc h) (by omega) with ⟨z1, z2⟩ | ⟨c, hc, rfl⟩
  · exact lwO.bad 1 0 (by decide) ⟨by omega, by omega, by omega, by omega⟩ (w_happened_eIO l (setG g0 a) (xD h) I (xFh h) n _ _ x trivial (t_X6_happened_c l hst (setG g0 a) h I n hC x z2)) (fun n' => c_X7_happened_c l (setG g0 a) h I n' (sNc h) n4 hm x z1)
  · obtain ⟨u, w⟩ := hL.1.2.1.2.2.2.1 c hc
    have e : up I [30] 0 (I [11, c, 0] 10) [24, 19] c = (I [11, c, 0] 10) := by rw [up_id (by simp)]; exact u.2.2.2.2.2.2.2
    have k := c_X7_happened l (setG g0 a) h (up I [30] 0 (I [11, c, 0] 10)) n (sNc h) n4 (by rw [up_id (by simp)]; exact hm) c hc
    rw [e] at k
    exact o_rd hL (I [11, c, 0] 10) ⟨by omega, by omega, by omega, by omega⟩ (w_happened l (setG g0 a) (xD h) (xD h) I I (xFh h) (xFh h) n n _ _ 0 0 (nI c) (I [11, c, 0] 10) trivial trivial (c_X6_happened l (setG g0 a) h I n hW hC c hc)) k
set_option maxHeartbeats 1000000 in
theorem o_planOf {l : Launch} (hst : l.stackTraces = false) {g0 : xG} {a : List Nat → Nat} {h : xS} {I : xI} {n jn : Nat} (hL : LW h I jn) (x : Int32) : lwO l g0 a h I n jn yL_planOf cL_planOf 4 [(0, 9, 12, 19)] yX7_planOf cX7_planOf 2 FieldType.int [.int x] := by
  have hW := hL.1.1.1
  have hC := hL.1.2.1.1
  have h3 := hW.1
  have n4 := hC.1
  have hm := hL.1.2.1.2.1
  have hz := hL.1.1.2.1
  rcases sIn_cases (x := x) (q := sNc h) (by omega) with ⟨z1, z2⟩ | ⟨c, hc, rfl⟩
  · exact lwO.bad 1 0 (by decide) ⟨by omega, by omega, by omega, by omega⟩ (w_planOf_eIO l (setG g0 a) (xD h) I (xFh h) n _ _ x trivial (t_X6_planOf_c l hst (setG g0 a) h I n hC x z2)) (fun n' => c_X7_planOf_c l (setG g0 a) h I n' (sNc h) n4 hm x z1)
  · obtain ⟨u, w⟩ := hL.1.2.1.2.2.2.1 c hc
    have e : up I [30] 0 (nI (sPl h c)) [24, 11] c = (nI (sPl h c)) := by rw [up_id (by simp)]; exact w.2.1
    have k := c_X7_planOf l (setG g0 a) h (up I [30] 0 (nI (sPl h c))) n (sNc h) n4 (by rw [up_id (by simp)]; exact hm) c hc
    rw [e] at k
    exact o_rd hL (nI (sPl h c)) ⟨by omega, by omega, by omega, by omega⟩ (w_planOf l (setG g0 a) (xD h) (xD h) I I (xFh h) (xFh h) n n _ _ 0 0 (nI c) (nI (sPl h c)) trivial trivial (c_X6_planOf l (setG g0 a) h I n hW hC c hc)) k
set_option maxHeartbeats 1000000 in
theorem o_isWaiting {l : Launch} (hst : l.stackTraces = false) {g0 : xG} {a : List Nat → Nat} {h : xS} {I : xI} {n jn : Nat} (hL : LW h I jn) (x : Int32) : lwO l g0 a h I n jn yL_isWaiting cL_isWaiting 4 [(0, 16, 19, 19)] yX7_isWaiting cX7_isWaiting 2 FieldType.boolean [.int x] := by
  have hW := hL.1.1.1
  have hC := hL.1.2.1.1
  have h3 := hW.1
  have n4 := hC.1
  have hm := hL.1.2.1.2.1
  have hz := hL.1.1.2.1
  rcases sIn_cases (x := x) (q := sNc h) (by omega) with ⟨z1, z2⟩ | ⟨c, hc, rfl⟩
  · exact lwO.bad 1 0 (by decide) ⟨by omega, by omega, by omega, by omega⟩ (w_isWaiting_eIO l (setG g0 a) (xD h) I (xFh h) n _ _ x trivial (t_X6_isWaiting_c l hst (setG g0 a) h I n hC x z2)) (fun n' => c_X7_isWaiting_c l (setG g0 a) h I n' (sNc h) n4 hm x z1)
  · obtain ⟨u, w⟩ := hL.1.2.1.2.2.2.1 c hc
    have e : up I [30] 0 (I [11, c, 0] 7) [24, 13] c = (I [11, c, 0] 7) := by rw [up_id (by simp)]; exact u.2.2.2.2.2.1
    have k := c_X7_isWaiting l (setG g0 a) h (up I [30] 0 (I [11, c, 0] 7)) n (sNc h) n4 (by rw [up_id (by simp)]; exact hm) c hc (by rw [e]; exact w.2.2.1)
    rw [e] at k
    exact o_rd hL (I [11, c, 0] 7) ⟨by omega, by omega, by omega, by omega⟩ (w_isWaiting l (setG g0 a) (xD h) (xD h) I I (xFh h) (xFh h) n n _ _ 0 0 (nI c) (I [11, c, 0] 7) w.2.2.1 trivial trivial (c_X6_isWaiting l (setG g0 a) h I n hW hC c hc w.2.2.1)) k (fun _ => w.2.2.1)
set_option maxHeartbeats 1000000 in
theorem o_state {l : Launch} (hst : l.stackTraces = false) {g0 : xG} {a : List Nat → Nat} {h : xS} {I : xI} {n jn : Nat} (hL : LW h I jn) (x y : Int32) : lwO l g0 a h I n jn yL_state cL_state 5 [(0, 10, 13, 19)] yX7_state cX7_state 3 FieldType.char [.int x, .int y] := by
  have hW := hL.1.1.1
  have hC := hL.1.2.1.1
  have h3 := hW.1
  have n4 := hC.1
  have hm := hL.1.2.1.2.1
  have hz := hL.1.1.2.1
  rcases sIn_cases (x := x) (q := sNc h) (by omega) with ⟨z1, z2⟩ | ⟨c, hc, rfl⟩
  · exact lwO.bad 1 32 (by decide) ⟨by omega, by omega, by omega, by omega⟩ (w_state_eIO l (setG g0 a) (xD h) I (xFh h) n _ _ x y trivial (t_X6_state_c l hst (setG g0 a) h I n hC x z2 y)) (fun n' => c_X7_state_c l (setG g0 a) h I n' (sNc h) n4 hm x y z1)
  · obtain ⟨u, w⟩ := hL.1.2.1.2.2.2.1 c hc
    obtain ⟨-, -, -, -, -, -, hp, -, g1, g2, g3⟩ := hL.vw hc 0
    rcases sIn_cases (x := y) (q := sSz h (sPl h c)) (by have := (hW.2.2 _ (hC.2.2 c hc).1).1; omega) with ⟨y1, y2⟩ | ⟨j, hj, rfl⟩
    · exact lwO.bad 1 32 (by decide) ⟨by omega, by omega, by omega, by omega⟩ (w_state_eIO l (setG g0 a) (xD h) I (xFh h) n _ _ (nI c) y trivial (t_X6_state_s l hst (setG g0 a) h I n hW hC c hc y y2)) (fun n' => c_X7_state_s l (setG g0 a) h I n' (sNp h) h3 hz (sPl h c) hp (sSz h (sPl h c)) g3 g2 (sNc h) n4 hm c hc g1 y y1)
    · have e : up I [30] 0 (I [11, c, 2] j) [22, 14, c] j = (I [11, c, 2] j) := by rw [up_id (by simp)]; exact congrFun u.2.1 j
      have k := c_X7_state l (setG g0 a) h (up I [30] 0 (I [11, c, 2] j)) n (sNp h) h3 (by rw [up_id (by simp)]; exact hz) (sPl h c) hp (sSz h (sPl h c)) g3 (by rw [up_id (by simp)]; exact g2) (sNc h) n4 (by rw [up_id (by simp)]; exact hm) c hc (by rw [up_id (by simp)]; exact g1) j hj (by omega) (by rw [e]; exact (hC.2.2 c hc).2 j)
      rw [e] at k
      exact o_rd hL (I [11, c, 2] j) ⟨by omega, by omega, by omega, by omega⟩ (w_state l (setG g0 a) (xD h) (xD h) I I (xFh h) (xFh h) n n _ _ 0 0 (nI c) (nI j) (I [11, c, 2] j) trivial trivial (c_X6_state l (setG g0 a) h I n hW hC c hc j hj)) k
set_option maxHeartbeats 1000000 in
theorem o_clock {l : Launch} (hst : l.stackTraces = false) {g0 : xG} {a : List Nat → Nat} {h : xS} {I : xI} {n jn : Nat} (hL : LW h I jn) (x y : Int32) : lwO l g0 a h I n jn yL_clock cL_clock 5 [(0, 10, 13, 19)] yX7_clock cX7_clock 3 FieldType.int [.int x, .int y] := by
  have hW := hL.1.1.1
  have hC := hL.1.2.1.1
  have h3 := hW.1
  have n4 := hC.1
  have hm := hL.1.2.1.2.1
  have hz := hL.1.1.2.1
  rcases sIn_cases (x := x) (q := sNc h) (by omega) with ⟨z1, z2⟩ | ⟨c, hc, rfl⟩
  · exact lwO.bad 1 0 (by decide) ⟨by omega, by omega, by omega, by omega⟩ (w_clock_eIO l (setG g0 a) (xD h) I (xFh h) n _ _ x y trivial (t_X6_clock_c l hst (setG g0 a) h I n hC x z2 y)) (fun n' => c_X7_clock_c l (setG g0 a) h I n' (sNc h) n4 hm x y z1)
  · obtain ⟨u, w⟩ := hL.1.2.1.2.2.2.1 c hc
    obtain ⟨-, -, -, -, -, -, hp, -, g1, g2, g3⟩ := hL.vw hc 0
    rcases sIn_cases (x := y) (q := sSz h (sPl h c)) (by have := (hW.2.2 _ (hC.2.2 c hc).1).1; omega) with ⟨y1, y2⟩ | ⟨j, hj, rfl⟩
    · exact lwO.bad 1 0 (by decide) ⟨by omega, by omega, by omega, by omega⟩ (w_clock_eIO l (setG g0 a) (xD h) I (xFh h) n _ _ (nI c) y trivial (t_X6_clock_s l hst (setG g0 a) h I n hW hC c hc y y2)) (fun n' => c_X7_clock_s l (setG g0 a) h I n' (sNp h) h3 hz (sPl h c) hp (sSz h (sPl h c)) g3 g2 (sNc h) n4 hm c hc g1 y y1)
    · have e : up I [30] 0 (I [11, c, 4] j) [22, 15, c] j = (I [11, c, 4] j) := by rw [up_id (by simp)]; exact congrFun u.2.2.1 j
      have k := c_X7_clock l (setG g0 a) h (up I [30] 0 (I [11, c, 4] j)) n (sNp h) h3 (by rw [up_id (by simp)]; exact hz) (sPl h c) hp (sSz h (sPl h c)) g3 (by rw [up_id (by simp)]; exact g2) (sNc h) n4 (by rw [up_id (by simp)]; exact hm) c hc (by rw [up_id (by simp)]; exact g1) j hj (by omega)
      rw [e] at k
      exact o_rd hL (I [11, c, 4] j) ⟨by omega, by omega, by omega, by omega⟩ (w_clock l (setG g0 a) (xD h) (xD h) I I (xFh h) (xFh h) n n _ _ 0 0 (nI c) (nI j) (I [11, c, 4] j) trivial trivial (c_X6_clock l (setG g0 a) h I n hW hC c hc j hj)) k
set_option maxHeartbeats 1000000 in
theorem o_count {l : Launch} (hst : l.stackTraces = false) {g0 : xG} {a : List Nat → Nat} {h : xS} {I : xI} {n jn : Nat} (hL : LW h I jn) (x y : Int32) : lwO l g0 a h I n jn yL_count cL_count 5 [(0, 10, 13, 19)] yX7_count cX7_count 3 FieldType.int [.int x, .int y] := by
  have hW := hL.1.1.1
  have hC := hL.1.2.1.1
  have h3 := hW.1
  have n4 := hC.1
  have hm := hL.1.2.1.2.1
  have hz := hL.1.1.2.1
  rcases sIn_cases (x := x) (q := sNc h) (by omega) with ⟨z1, z2⟩ | ⟨c, hc, rfl⟩
  · exact lwO.bad 1 0 (by decide) ⟨by omega, by omega, by omega, by omega⟩ (w_count_eIO l (setG g0 a) (xD h) I (xFh h) n _ _ x y trivial (t_X6_count_c l hst (setG g0 a) h I n hC x z2 y)) (fun n' => c_X7_count_c l (setG g0 a) h I n' (sNc h) n4 hm x y z1)
  · obtain ⟨u, w⟩ := hL.1.2.1.2.2.2.1 c hc
    obtain ⟨-, -, -, -, -, -, hp, -, g1, g2, g3⟩ := hL.vw hc 0
    rcases sIn_cases (x := y) (q := sSz h (sPl h c)) (by have := (hW.2.2 _ (hC.2.2 c hc).1).1; omega) with ⟨y1, y2⟩ | ⟨j, hj, rfl⟩
    · exact lwO.bad 1 0 (by decide) ⟨by omega, by omega, by omega, by omega⟩ (w_count_eIO l (setG g0 a) (xD h) I (xFh h) n _ _ (nI c) y trivial (t_X6_count_s l hst (setG g0 a) h I n hW hC c hc y y2)) (fun n' => c_X7_count_s l (setG g0 a) h I n' (sNp h) h3 hz (sPl h c) hp (sSz h (sPl h c)) g3 g2 (sNc h) n4 hm c hc g1 y y1)
    · have e : up I [30] 0 (I [11, c, 5] j) [22, 16, c] j = (I [11, c, 5] j) := by rw [up_id (by simp)]; exact congrFun u.2.2.2.1 j
      have k := c_X7_count l (setG g0 a) h (up I [30] 0 (I [11, c, 5] j)) n (sNp h) h3 (by rw [up_id (by simp)]; exact hz) (sPl h c) hp (sSz h (sPl h c)) g3 (by rw [up_id (by simp)]; exact g2) (sNc h) n4 (by rw [up_id (by simp)]; exact hm) c hc (by rw [up_id (by simp)]; exact g1) j hj (by omega)
      rw [e] at k
      exact o_rd hL (I [11, c, 5] j) ⟨by omega, by omega, by omega, by omega⟩ (w_count l (setG g0 a) (xD h) (xD h) I I (xFh h) (xFh h) n n _ _ 0 0 (nI c) (nI j) (I [11, c, 5] j) trivial trivial (c_X6_count l (setG g0 a) h I n hW hC c hc j hj)) k
set_option maxHeartbeats 1000000 in
theorem o_active {l : Launch} (hst : l.stackTraces = false) {g0 : xG} {a : List Nat → Nat} {h : xS} {I : xI} {n jn : Nat} (hL : LW h I jn) (x : Int32) : lwO l g0 a h I n jn yL_active cL_active 4 [(0, 9, 12, 19)] yX7_active cX7_active 2 FieldType.int [.int x] := by
  have hW := hL.1.1.1
  have hC := hL.1.2.1.1
  have h3 := hW.1
  have n4 := hC.1
  have hm := hL.1.2.1.2.1
  have hz := hL.1.1.2.1
  rcases sIn_cases (x := x) (q := sNc h) (by omega) with ⟨z1, z2⟩ | ⟨c, hc, rfl⟩
  · exact lwO.bad 1 0 (by decide) ⟨by omega, by omega, by omega, by omega⟩ (w_active_eIO l (setG g0 a) (xD h) I (xFh h) n _ _ x trivial (t_X6_active_c l hst (setG g0 a) h I n hC x z2)) (fun n' => c_X7_active_c l (setG g0 a) h I n' (sNc h) n4 hm x z1)
  · skip
    obtain ⟨m1, m2, m3, m4, m5, m6, hp, m7, g1, g2, g3⟩ := hL.vw hc (nI (sCnt (gX I c) 97 (sSz h (sPl h c))))
    have k := c_X7_active l (setG g0 a) h (up I [30] 0 (nI (sCnt (gX I c) 97 (sSz h (sPl h c))))) n c (gX I c) (sNc h) n4 m1 hc (sPl h c) (by omega) m3 m4 m5
    rw [← mW_u20 _ _ _ _ (by decide), m6] at k
    exact o_rd hL (nI (sCnt (gX I c) 97 (sSz h (sPl h c)))) ⟨by omega, by omega, by omega, by omega⟩ (w_active l (setG g0 a) (xD h) (xD h) I I (xFh h) (xFh h) n n _ _ 0 0 (nI c) (nI (sCnt (gX I c) 97 (sSz h (sPl h c)))) trivial trivial (c_X6_active l (setG g0 a) h I n hW hC c hc)) k
set_option maxHeartbeats 1000000 in
theorem o_isOver {l : Launch} (hst : l.stackTraces = false) {g0 : xG} {a : List Nat → Nat} {h : xS} {I : xI} {n jn : Nat} (hL : LW h I jn) (x : Int32) : lwO l g0 a h I n jn yL_isOver cL_isOver 4 [(0, 16, 19, 19)] yX7_isOver cX7_isOver 4 FieldType.boolean [.int x] := by
  have hW := hL.1.1.1
  have hC := hL.1.2.1.1
  have h3 := hW.1
  have n4 := hC.1
  have hm := hL.1.2.1.2.1
  have hz := hL.1.1.2.1
  rcases sIn_cases (x := x) (q := sNc h) (by omega) with ⟨z1, z2⟩ | ⟨c, hc, rfl⟩
  · exact lwO.bad 1 0 (by decide) ⟨by omega, by omega, by omega, by omega⟩ (w_isOver_eIO l (setG g0 a) (xD h) I (xFh h) n _ _ x trivial (t_X6_isOver_c l hst (setG g0 a) h I n hC x z2)) (fun n' => c_X7_isOver_c l (setG g0 a) h I n' (sNc h) n4 hm x z1)
  · skip
    obtain ⟨m1, m2, m3, m4, m5, m6, hp, m7, g1, g2, g3⟩ := hL.vw hc (b01 (sOvr (vP I (sPl h c)) (gX I c) (sSz h (sPl h c))))
    have k := c_X7_isOver l (setG g0 a) h (up I [30] 0 (b01 (sOvr (vP I (sPl h c)) (gX I c) (sSz h (sPl h c))))) n c (gX I c) (sNc h) n4 m1 hc (sPl h c) (by omega) m3 m4 m5
    rw [← mW_u20 _ _ _ _ (by decide), m6, m7] at k
    exact o_rd hL (b01 (sOvr (vP I (sPl h c)) (gX I c) (sSz h (sPl h c)))) ⟨by omega, by omega, by omega, by omega⟩ (w_isOver l (setG g0 a) (xD h) (xD h) I I (xFh h) (xFh h) n n _ _ 0 0 (nI c) (b01 (sOvr (vP I (sPl h c)) (gX I c) (sSz h (sPl h c)))) (b01_bo _) trivial trivial (c_X6_isOver l (setG g0 a) h I n hW hC c hc)) k (fun _ => b01_bo _)
set_option maxHeartbeats 1000000 in
theorem o_isLate {l : Launch} (hst : l.stackTraces = false) {g0 : xG} {a : List Nat → Nat} {h : xS} {I : xI} {n jn : Nat} (hL : LW h I jn) (hj600 : jn ≤ 600) (x y : Int32) : lwO l g0 a h I n jn yL_isLate cL_isLate 5 [(0, 17, 20, 19)] yX7_isLate cX7_isLate 3 FieldType.boolean [.int x, .int y] := by
  have hW := hL.1.1.1
  have hC := hL.1.2.1.1
  have h3 := hW.1
  have n4 := hC.1
  have hm := hL.1.2.1.2.1
  have hz := hL.1.1.2.1
  rcases sIn_cases (x := x) (q := sNc h) (by omega) with ⟨z1, z2⟩ | ⟨c, hc, rfl⟩
  · exact lwO.bad 1 0 (by decide) ⟨by omega, by omega, by omega, by omega⟩ (w_isLate_eIO l (setG g0 a) (xD h) I (xFh h) n _ _ x y trivial (t_X6_isLate_c l hst (setG g0 a) h I n hC x z2 y)) (fun n' => c_X7_isLate_c l (setG g0 a) h I n' (sNc h) n4 hm x y z1)
  · obtain ⟨-, -, -, -, -, -, hp, -, g1, g2, g3⟩ := hL.vw hc 0
    rcases sIn_cases (x := y) (q := sSz h (sPl h c)) (by have := (hW.2.2 _ (hC.2.2 c hc).1).1; omega) with ⟨y1, y2⟩ | ⟨j, hj, rfl⟩
    · exact lwO.bad 1 0 (by decide) ⟨by omega, by omega, by omega, by omega⟩ (w_isLate_eIO l (setG g0 a) (xD h) I (xFh h) n _ _ (nI c) y trivial (t_X6_isLate_s l hst (setG g0 a) h I n hW hC c hc y y2)) (fun n' => c_X7_isLate_s l (setG g0 a) h I n' (sNp h) h3 hz (sPl h c) hp (sSz h (sPl h c)) g3 g2 (sNc h) n4 hm c hc g1 y y1)
    · skip
      obtain ⟨m1, m2, m3, m4, m5, m6, hp, m7, g1, g2, g3⟩ := hL.vw hc (b01 (sLte (vP I (sPl h c)) (gX I c) j))
      have k := c_X7_isLate l (setG g0 a) h (up I [30] 0 (b01 (sLte (vP I (sPl h c)) (gX I c) j))) n c (gX I c) (sNc h) n4 m1 hc (sPl h c) (by omega) m3 m4 m5 (sNp h) h3 m2 hp j hj
      rw [← mW_u20 _ _ _ _ (by decide), m6, m7, ← hL.1.late hj600 hc hj] at k
      exact o_rd hL (b01 (sLte (vP I (sPl h c)) (gX I c) j)) ⟨by omega, by omega, by omega, by omega⟩ (w_isLate l (setG g0 a) (xD h) (xD h) I I (xFh h) (xFh h) n n _ _ 0 0 (nI c) (nI j) (b01 (sLte (vP I (sPl h c)) (gX I c) j)) (b01_bo _) trivial trivial (c_X6_isLate l (setG g0 a) h I n hW hC c hc j hj)) k (fun _ => b01_bo _)
set_option maxHeartbeats 1000000 in
theorem o_daysLeft {l : Launch} (hst : l.stackTraces = false) {g0 : xG} {a : List Nat → Nat} {h : xS} {I : xI} {n jn : Nat} (hL : LW h I jn) (x : Int32) : lwO l g0 a h I n jn yL_daysLeft cL_daysLeft 4 [(0, 9, 12, 19), (0, 9, 15, 97)] yX7_daysLeft cX7_daysLeft 7 FieldType.int [.int x] := by
  have hW := hL.1.1.1
  have hC := hL.1.2.1.1
  have h3 := hW.1
  have n4 := hC.1
  have hm := hL.1.2.1.2.1
  have hz := hL.1.1.2.1
  rcases sIn_cases (x := x) (q := sNc h) (by omega) with ⟨z1, z2⟩ | ⟨c, hc, rfl⟩
  · exact lwO.bad 1 0 (by decide) ⟨by omega, by omega, by omega, by omega⟩ (w_daysLeft_eIO l (setG g0 a) (xD h) I (xFh h) n _ _ x trivial (t_X6_daysLeft_c l hst (setG g0 a) h I n hC x z2)) (fun n' => c_X7_daysLeft_c l (setG g0 a) h I n' (sNc h) n4 hm x z1)
  · by_cases hf : (sFew (vP I (sPl h c)) (gX I c) (sSz h (sPl h c))) = -1
    · have hp := (hC.2.2 c hc).1
      have hvw : mW I c (gX I c) = I := hL.1.view hc (fun _ _ => rfl)
      refine lwO.bad (fr' := 4) (lo' := 76) 2 0 (by decide) ⟨by omega, by omega, by omega, by omega⟩ (w_daysLeft_eNS l (setG g0 a) (xD h) I (xFh h) n _ _ (nI c) trivial (t_X6_daysLeft_n l hst (setG g0 a) h I n hW hC c hc hf)) (fun n' => ?_)
      obtain ⟨u, w⟩ := hL.1.2.1.2.2.2.1 c hc
      have k := c_X7_daysLeft_n l (setG g0 a) h I n' c (gX I c) (sNc h) n4 hm hc (sPl h c) (by omega) w.2.1 (hL.1.1.2.2.1 _ hp).1 (hW.2.2 _ hp) hf
      rw [← mW_u20 _ _ _ _ (by decide), hvw] at k
      exact k
    · skip
      obtain ⟨m1, m2, m3, m4, m5, m6, hp, m7, g1, g2, g3⟩ := hL.vw hc (sFew (vP I (sPl h c)) (gX I c) (sSz h (sPl h c)))
      have k := c_X7_daysLeft l (setG g0 a) h (up I [30] 0 (sFew (vP I (sPl h c)) (gX I c) (sSz h (sPl h c)))) n c (gX I c) (sNc h) n4 m1 hc (sPl h c) (by omega) m3 m4 m5 (by rw [m7]; exact hf)
      rw [← mW_u20 _ _ _ _ (by decide), m6, m7] at k
      exact o_rd hL (sFew (vP I (sPl h c)) (gX I c) (sSz h (sPl h c))) ⟨by omega, by omega, by omega, by omega⟩ (w_daysLeft l (setG g0 a) (xD h) (xD h) I I (xFh h) (xFh h) n n _ _ 0 0 (nI c) (sFew (vP I (sPl h c)) (gX I c) (sSz h (sPl h c))) trivial trivial (c_X6_daysLeft l (setG g0 a) h I n hW hC c hc hf)) k
set_option maxHeartbeats 1000000 in
theorem o_holds {l : Launch} (hst : l.stackTraces = false) {g0 : xG} {a : List Nat → Nat} {h : xS} {I : xI} {n jn : Nat} (hL : LW h I jn) (x y f z : Int32) : lwO l g0 a h I n jn yL_holds cL_holds 7 [(0, 21, 24, 19), (0, 21, 28, 97)] yX7_holds cX7_holds 6 FieldType.boolean [.int x, .int y, .int f, .int z] := by
  have hW := hL.1.1.1
  have hC := hL.1.2.1.1
  have h3 := hW.1
  have n4 := hC.1
  have hm := hL.1.2.1.2.1
  have hz := hL.1.1.2.1
  rcases sIn_cases (x := x) (q := sNc h) (by omega) with ⟨z1, z2⟩ | ⟨c, hc, rfl⟩
  · exact lwO.bad 1 0 (by decide) ⟨by omega, by omega, by omega, by omega⟩ (w_holds_eIO l (setG g0 a) (xD h) I (xFh h) n _ _ x y f z trivial (t_X6_holds_c l hst (setG g0 a) h I n hC x z2 y f z)) (fun n' => c_X7_holds_c l (setG g0 a) h I n' (sNc h) n4 hm x y f z z1)
  · obtain ⟨-, -, -, -, -, -, hp, -, g1, g2, g3⟩ := hL.vw hc 0
    rcases sIn_cases (x := y) (q := sSz h (sPl h c)) (by have := (hW.2.2 _ (hC.2.2 c hc).1).1; omega) with ⟨y1, y2⟩ | ⟨j, hj, rfl⟩
    · exact lwO.bad 1 0 (by decide) ⟨by omega, by omega, by omega, by omega⟩ (w_holds_eIO l (setG g0 a) (xD h) I (xFh h) n _ _ (nI c) y f z trivial (t_X6_holds_s l hst (setG g0 a) h I n hW hC c hc y y2 f z)) (fun n' => c_X7_holds_s l (setG g0 a) h I n' (sNp h) h3 hz (sPl h c) hp (sSz h (sPl h c)) g3 g2 (sNc h) n4 hm c hc g1 y f z y1)
    · obtain ⟨w, hw, hf⟩ : ∃ w : Nat, w < 2 ∧ ((f = 0 ∧ w = 1) ∨ (¬ f = 0 ∧ w = 0)) := by
        by_cases q : f = 0
        · exact ⟨1, by omega, Or.inl ⟨q, rfl⟩⟩
        · exact ⟨0, by omega, Or.inr ⟨q, rfl⟩⟩
      have c3 := (((hW.2.2 _ hp).2.2.2 j hj).2.2 w hw).2.1
      rcases sIn_cases (x := z) (q := sCn h (sPl h c) j w) (by omega) with ⟨q1, q2⟩ | ⟨k, hk, rfl⟩
      · have hvw : mW I c (gX I c) = I := hL.1.view hc (fun _ _ => rfl)
        refine lwO.bad (fr' := 6) (lo' := 121) 2 0 (by decide) ⟨by omega, by omega, by omega, by omega⟩ (w_holds_eNS l (setG g0 a) (xD h) I (xFh h) n _ _ (nI c) (nI j) f z trivial (t_X6_holds_n l hst (setG g0 a) h I n hW hC c hc j hj w hw z q2 f hf)) (fun n' => ?_)
        have k := c_X7_holds_n l (setG g0 a) h I n' c (gX I c) (sNc h) n4 hm hc (sPl h c) (by omega) g1 (hL.1.1.2.2.1 _ hp).1 (hW.2.2 _ hp) (sNp h) h3 hz hp j hj w hw z q1 f hf
        rw [← mW_u20 _ _ _ _ (by decide), hvw] at k
        exact k
      · obtain ⟨m1, m2, m3, m4, m5, m6, hp, m7, g1, g2, g3⟩ := hL.vw hc (b01 (sMet (I [10, sPl h c, j, w, k]) (gX I c)))
        have e10 : up I [30] 0 (b01 (sMet (I [10, sPl h c, j, w, k]) (gX I c))) [10, sPl h c, j, w, k] = I [10, sPl h c, j, w, k] := up_id (by simp)
        have k2 := c_X7_holds l (setG g0 a) h (up I [30] 0 (b01 (sMet (I [10, sPl h c, j, w, k]) (gX I c)))) n c (gX I c) (sNc h) n4 m1 hc (sPl h c) (by omega) m3 m4 m5 (sNp h) h3 m2 hp j hj w k hw hk f hf
        rw [← mW_u20 _ _ _ _ (by decide), m6, e10] at k2
        exact o_rd hL (b01 (sMet (I [10, sPl h c, j, w, k]) (gX I c))) ⟨by omega, by omega, by omega, by omega⟩ (w_holds l (setG g0 a) (xD h) (xD h) I I (xFh h) (xFh h) n n _ _ 0 0 (nI c) (nI j) f (nI k) (b01 (sMet (I [10, sPl h c, j, w, k]) (gX I c))) (b01_bo _) trivial trivial (c_X6_holds l (setG g0 a) h I n hW hC c hc j hj w k hw hk f hf)) k2 (fun _ => b01_bo _)
set_option maxHeartbeats 1000000 in
theorem o_datum {l : Launch} (hst : l.stackTraces = false) {g0 : xG} {a : List Nat → Nat} {h : xS} {I : xI} {n jn : Nat} (hL : LW h I jn) (x y : Int32) : lwO l g0 a h I n jn yL_datum cL_datum 5 [(0, 10, 13, 19), (0, 10, 17, 21)] yX7_datum cX7_datum 3 FieldType.int [.int x, .int y] := by
  have hW := hL.1.1.1
  have hC := hL.1.2.1.1
  have h3 := hW.1
  have n4 := hC.1
  have hm := hL.1.2.1.2.1
  have hz := hL.1.1.2.1
  rcases sIn_cases (x := x) (q := sNc h) (by omega) with ⟨z1, z2⟩ | ⟨c, hc, rfl⟩
  · exact lwO.bad 1 0 (by decide) ⟨by omega, by omega, by omega, by omega⟩ (w_datum_eIO l (setG g0 a) (xD h) I (xFh h) n _ _ x y trivial (t_X6_datum_c l hst (setG g0 a) h I n hC x z2 y)) (fun n' => c_X7_datum_c l (setG g0 a) h I n' (sNc h) n4 hm x y z1)
  · obtain ⟨u, w⟩ := hL.1.2.1.2.2.2.1 c hc
    rcases sIn_cases (x := y) (q := 4) (by omega) with ⟨y1, y2⟩ | ⟨j, hj, rfl⟩
    · exact lwO.bad 2 0 (by decide) ⟨by omega, by omega, by omega, by omega⟩ (w_datum_eIA l (setG g0 a) (xD h) I (xFh h) n _ _ (nI c) y trivial (t_X6_datum_d l hst (setG g0 a) h I n hW hC c hc y y1)) (fun n' => c_X7_datum_d l (setG g0 a) h I n' (sNc h) n4 hm c hc y y1)
    · have e : up I [30] 0 (I [11, c, 1] j) [22, 12, c] j = (I [11, c, 1] j) := by rw [up_id (by simp)]; exact congrFun u.1 j
      have k := c_X7_datum l (setG g0 a) h (up I [30] 0 (I [11, c, 1] j)) n (sNc h) n4 (by rw [up_id (by simp)]; exact hm) c hc j hj
      rw [e] at k
      exact o_rd hL (I [11, c, 1] j) ⟨by omega, by omega, by omega, by omega⟩ (w_datum l (setG g0 a) (xD h) (xD h) I I (xFh h) (xFh h) n n _ _ 0 0 (nI c) (nI j) (I [11, c, 1] j) trivial trivial (c_X6_datum l (setG g0 a) h I n hW hC c hc j hj)) k
set_option maxHeartbeats 1000000 in
theorem o_steps {l : Launch} (hst : l.stackTraces = false) {g0 : xG} {a : List Nat → Nat} {h : xS} {I : xI} {n jn : Nat} (hL : LW h I jn) (x : Int32) : lwO l g0 a h I n jn yL_steps cL_steps 4 [(0, 9, 12, 19)] yX7_steps cX7_steps 2 FieldType.int [.int x] := by
  have hW := hL.1.1.1
  have hC := hL.1.2.1.1
  have h3 := hW.1
  have n4 := hC.1
  have hm := hL.1.2.1.2.1
  have hz := hL.1.1.2.1
  rcases sIn_cases (x := x) (q := sNp h) (by omega) with ⟨z1, z2⟩ | ⟨p, hp, rfl⟩
  · exact lwO.bad 1 0 (by decide) ⟨by omega, by omega, by omega, by omega⟩ (w_steps_eIO l (setG g0 a) (xD h) I (xFh h) n _ _ x trivial (t_X6_steps_p l hst (setG g0 a) h I n hW x z2)) (fun n' => c_X7_steps_p l (setG g0 a) h I n' (sNp h) h3 hz x z1)
  · have k := c_X7_steps l (setG g0 a) h (up I [30] 0 (nI (sSz h p))) n (sNp h) h3 (by rw [up_id (by simp)]; exact hz) p hp (sSz h p) (hW.2.2 p hp).1 (by rw [up_id (by simp)]; exact (hL.1.1.2.2.1 p hp).1.1)
    exact o_rd hL (nI (sSz h p)) ⟨by omega, by omega, by omega, by omega⟩ (w_steps l (setG g0 a) (xD h) (xD h) I I (xFh h) (xFh h) n n _ _ 0 0 (nI p) (nI (sSz h p)) trivial trivial (c_X6_steps l (setG g0 a) h I n hW p hp)) k
set_option maxHeartbeats 1000000 in
theorem o_isUsed {l : Launch} (hst : l.stackTraces = false) {g0 : xG} {a : List Nat → Nat} {h : xS} {I : xI} {n jn : Nat} (hL : LW h I jn) (x : Int32) : lwO l g0 a h I n jn yL_isUsed cL_isUsed 4 [(0, 16, 19, 19)] yX7_isUsed cX7_isUsed 2 FieldType.boolean [.int x] := by
  have hW := hL.1.1.1
  have hC := hL.1.2.1.1
  have h3 := hW.1
  have n4 := hC.1
  have hm := hL.1.2.1.2.1
  have hz := hL.1.1.2.1
  rcases sIn_cases (x := x) (q := sNp h) (by omega) with ⟨z1, z2⟩ | ⟨p, hp, rfl⟩
  · exact lwO.bad 1 0 (by decide) ⟨by omega, by omega, by omega, by omega⟩ (w_isUsed_eIO l (setG g0 a) (xD h) I (xFh h) n _ _ x trivial (t_X6_isUsed_p l hst (setG g0 a) h I n hW x z2)) (fun n' => c_X7_isUsed_p l (setG g0 a) h I n' (sNp h) h3 hz x z1)
  · obtain ⟨-, w1, w2, -, -⟩ := hL.1.1.2.2.1 p hp
    have e : up I [30] 0 (I [5, p] 3) [24, 9] p = (I [5, p] 3) := by rw [up_id (by simp)]; exact w1
    have k := c_X7_isUsed l (setG g0 a) h (up I [30] 0 (I [5, p] 3)) n (sNp h) h3 (by rw [up_id (by simp)]; exact hz) p hp (by rw [e]; exact w2)
    rw [e] at k
    exact o_rd hL (I [5, p] 3) ⟨by omega, by omega, by omega, by omega⟩ (w_isUsed l (setG g0 a) (xD h) (xD h) I I (xFh h) (xFh h) n n _ _ 0 0 (nI p) (I [5, p] 3) w2 trivial trivial (c_X6_isUsed l (setG g0 a) h I n hW p hp w2)) k (fun _ => w2)
set_option maxHeartbeats 1000000 in
theorem o_stateByReplay {l : Launch} (hst : l.stackTraces = false) {g0 : xG} {a : List Nat → Nat} {h : xS} {I : xI} {n jn : Nat} (hL : LW h I jn) (hj512 : jn ≤ 512) (x y : Int32) : lwO l g0 a h I n jn yL_stateByReplay cL_stateByReplay 5 [(0, 10, 13, 19)] yX7_stateByReplay cX7_stateByReplay 3 FieldType.char [.int x, .int y] := by
  have hW := hL.1.1.1
  have hC := hL.1.2.1.1
  have h3 := hW.1
  have n4 := hC.1
  have hm := hL.1.2.1.2.1
  have hz := hL.1.1.2.1
  rcases sIn_cases (x := x) (q := sNc h) (by omega) with ⟨z1, z2⟩ | ⟨c, hc, rfl⟩
  · exact lwO.bad 1 32 (by decide) ⟨by omega, by omega, by omega, by omega⟩ (w_stateByReplay_eIO l (setG g0 a) (xD h) I (xFh h) n _ _ x y trivial (t_X6_stateByReplay_c l hst (setG g0 a) h I n hC x z2 y)) (fun n' => c_X7_stateByReplay_c l (setG g0 a) h I n' (sNc h) n4 hm x y z1)
  · obtain ⟨-, -, -, -, -, -, hp, -, g1, g2, g3⟩ := hL.vw hc 0
    rcases sIn_cases (x := y) (q := sSz h (sPl h c)) (by have := (hW.2.2 _ (hC.2.2 c hc).1).1; omega) with ⟨y1, y2⟩ | ⟨j, hj, rfl⟩
    · exact lwO.bad 1 32 (by decide) ⟨by omega, by omega, by omega, by omega⟩ (w_stateByReplay_eIO l (setG g0 a) (xD h) I (xFh h) n _ _ (nI c) y trivial (t_X6_stateByReplay_s l hst (setG g0 a) h I n hW hC c hc y y2)) (fun n' => c_X7_stateByReplay_s l (setG g0 a) h I n' (sNp h) h3 hz (sPl h c) hp (sSz h (sPl h c)) g3 g2 (sNc h) n4 hm c hc g1 y y1)
    · obtain ⟨I4, hI4⟩ : ∃ z, z = sX I 4 (nrm (gX I 4)) := ⟨_, rfl⟩
      have e4 : ∀ id, lvI id = true → I4 id = I id := fun id hi => by
        rw [hI4]
        rcases sX_cases I 4 (nrm (gX I 4)) id with ⟨q, rfl, -⟩ | ⟨-, z⟩
        · cases hi
        · exact z
      have n20 : I4 [20] = I [20] := by
        rw [hI4]
        rcases sX_cases I 4 (nrm (gX I 4)) [20] with ⟨q, z, -⟩ | ⟨-, z⟩
        · simp at z
        · exact z
      have gx4 : gX I4 4 = nrm (gX I 4) := by rw [hI4]; exact gX_sX _ _ _
      have L4 : LW h I4 jn := hL.same e4 (by rw [n20]) (by rw [n20]) (by rw [n20]) (by rw [gx4]; exact xCh_nrm hL.1.2.2.2.2)
      obtain ⟨j1, j2, j3, r, j4⟩ := L4.1.2.2.2.1.2.2 c hc (sPl h 4) (gX I4 4) (by rw [gx4]; exact nrm_nrm _)
      obtain ⟨S, hS⟩ : ∃ S, S = sRep h I4 (nI c) (false, (sPl h 4, gX I4 4)) jn := ⟨_, rfl⟩
      have gc : gX I4 c = gX I c := gX_same e4 (by omega)
      have W6 := c_X6_stateByReplay l (setG g0 a) h I4 n L4.1.1.1 L4.1.2.1.1 c hc jn hj512 L4.1.2.2.2.1.1 L4.1.2.2.2.2 j1 j hj
      rw [← hS] at W6 j2 j3 j4
      have ev : S.2.2 2 j = (I [11, c, 2] j) := by rw [j4, gc]; rfl
      rw [ev] at W6
      have L5 : LW (hPl h 4 S.2.1) (sX I4 4 S.2.2) jn := by
        refine ⟨(L4.1.hp4 S.2.1).same (fun id hi => ?_) ?_ ?_ ?_ ?_, Or.inl ?_⟩
        · rcases sX_cases I4 4 S.2.2 id with ⟨q, rfl, -⟩ | ⟨-, z⟩
          · cases hi
          · exact z
        · rfl
        · rfl
        · rfl
        · rw [gX_sX, j4]
          exact fun q => ((L4.1.2.1.1.2.2 c hc).2 q : _)
        · show (if (4 : Nat) = 4 then S.2.1 else sPl h 4) < sNp h
          rw [if_pos rfl, j3]; exact hp
      have hn : xD (hPl h 4 S.2.1) = xD h := rfl
      obtain ⟨u, w⟩ := L5.1.2.1.2.2.2.1 c hc
      have e30 : sX I4 4 S.2.2 [22, 14, c] j = (I [11, c, 2] j) := by
        have q := congrFun u.2.1 j
        rw [q]
        show sX I4 4 S.2.2 [11, c, 2] j = I [11, c, 2] j
        rw [sX_ne _ _ _ (by omega)]
        exact congrFun (e4 _ (lvI_11 (by omega))) j
      have e : up (sX I4 4 S.2.2) [30] 0 (I [11, c, 2] j) [22, 14, c] j = (I [11, c, 2] j) := by rw [up_id (by simp)]; exact e30
      obtain ⟨m1, m2, m3, m4, m5, m6, hp', m7, g1', g2', g3'⟩ := L5.vw hc (I [11, c, 2] j)
      have ep : sPl (hPl h 4 S.2.1) c = sPl h c := if_neg (by omega)
      have k := c_X7_stateByReplay l (setG g0 a) (hPl h 4 S.2.1) (up (sX I4 4 S.2.2) [30] 0 (I [11, c, 2] j)) n (sNp h) h3 m2 (sPl h c) hp (sSz h (sPl h c)) g3 (by rw [up_id (by simp), ← ep]; exact g2') (sNc h) n4 m1 c hc (by rw [m3, ep]) j hj (by omega) (by rw [e]; exact (hC.2.2 c hc).2 j)
      rw [e] at k
      exact Or.inr ⟨a, hPl h 4 S.2.1, I4, up (sX I4 4 S.2.2) [30] 0 (I [11, c, 2] j), up (up (sX I4 4 S.2.2) [30] 0 (I [11, c, 2] j)) [20] 23 0, n, jn, (I [11, c, 2] j), _, _, _, _, 0, 0, fun _ _ => rfl, ⟨by omega, by omega, by omega, by omega, by omega, by omega, by omega⟩, fun H hH => by rw [hI4]; exact hH.nrm4,
        w_stateByReplay l (setG g0 a) (xD h) (xD h) I4 (sX I4 4 S.2.2) (xFh h) (xFh (hPl h 4 S.2.1)) n n _ _ 0 0 (nI c) (nI j) (I [11, c, 2] j) trivial trivial W6, k, up_at, by rw [up_id (by simp)]; exact up_at, fun z => by (cases z), L5.read (I [11, c, 2] j)⟩
set_option maxHeartbeats 1000000 in
theorem o_clockByReplay {l : Launch} (hst : l.stackTraces = false) {g0 : xG} {a : List Nat → Nat} {h : xS} {I : xI} {n jn : Nat} (hL : LW h I jn) (hj512 : jn ≤ 512) (x y : Int32) : lwO l g0 a h I n jn yL_clockByReplay cL_clockByReplay 5 [(0, 10, 13, 19)] yX7_clockByReplay cX7_clockByReplay 3 FieldType.int [.int x, .int y] := by
  have hW := hL.1.1.1
  have hC := hL.1.2.1.1
  have h3 := hW.1
  have n4 := hC.1
  have hm := hL.1.2.1.2.1
  have hz := hL.1.1.2.1
  rcases sIn_cases (x := x) (q := sNc h) (by omega) with ⟨z1, z2⟩ | ⟨c, hc, rfl⟩
  · exact lwO.bad 1 0 (by decide) ⟨by omega, by omega, by omega, by omega⟩ (w_clockByReplay_eIO l (setG g0 a) (xD h) I (xFh h) n _ _ x y trivial (t_X6_clockByReplay_c l hst (setG g0 a) h I n hC x z2 y)) (fun n' => c_X7_clockByReplay_c l (setG g0 a) h I n' (sNc h) n4 hm x y z1)
  · obtain ⟨-, -, -, -, -, -, hp, -, g1, g2, g3⟩ := hL.vw hc 0
    rcases sIn_cases (x := y) (q := sSz h (sPl h c)) (by have := (hW.2.2 _ (hC.2.2 c hc).1).1; omega) with ⟨y1, y2⟩ | ⟨j, hj, rfl⟩
    · exact lwO.bad 1 0 (by decide) ⟨by omega, by omega, by omega, by omega⟩ (w_clockByReplay_eIO l (setG g0 a) (xD h) I (xFh h) n _ _ (nI c) y trivial (t_X6_clockByReplay_s l hst (setG g0 a) h I n hW hC c hc y y2)) (fun n' => c_X7_clockByReplay_s l (setG g0 a) h I n' (sNp h) h3 hz (sPl h c) hp (sSz h (sPl h c)) g3 g2 (sNc h) n4 hm c hc g1 y y1)
    · obtain ⟨I4, hI4⟩ : ∃ z, z = sX I 4 (nrm (gX I 4)) := ⟨_, rfl⟩
      have e4 : ∀ id, lvI id = true → I4 id = I id := fun id hi => by
        rw [hI4]
        rcases sX_cases I 4 (nrm (gX I 4)) id with ⟨q, rfl, -⟩ | ⟨-, z⟩
        · cases hi
        · exact z
      have n20 : I4 [20] = I [20] := by
        rw [hI4]
        rcases sX_cases I 4 (nrm (gX I 4)) [20] with ⟨q, z, -⟩ | ⟨-, z⟩
        · simp at z
        · exact z
      have gx4 : gX I4 4 = nrm (gX I 4) := by rw [hI4]; exact gX_sX _ _ _
      have L4 : LW h I4 jn := hL.same e4 (by rw [n20]) (by rw [n20]) (by rw [n20]) (by rw [gx4]; exact xCh_nrm hL.1.2.2.2.2)
      obtain ⟨j1, j2, j3, r, j4⟩ := L4.1.2.2.2.1.2.2 c hc (sPl h 4) (gX I4 4) (by rw [gx4]; exact nrm_nrm _)
      obtain ⟨S, hS⟩ : ∃ S, S = sRep h I4 (nI c) (false, (sPl h 4, gX I4 4)) jn := ⟨_, rfl⟩
      have gc : gX I4 c = gX I c := gX_same e4 (by omega)
      have W6 := c_X6_clockByReplay l (setG g0 a) h I4 n L4.1.1.1 L4.1.2.1.1 c hc jn hj512 L4.1.2.2.2.1.1 L4.1.2.2.2.2 j1 j hj
      rw [← hS] at W6 j2 j3 j4
      have ev : S.2.2 4 j = (I [11, c, 4] j) := by rw [j4, gc]; rfl
      rw [ev] at W6
      have L5 : LW (hPl h 4 S.2.1) (sX I4 4 S.2.2) jn := by
        refine ⟨(L4.1.hp4 S.2.1).same (fun id hi => ?_) ?_ ?_ ?_ ?_, Or.inl ?_⟩
        · rcases sX_cases I4 4 S.2.2 id with ⟨q, rfl, -⟩ | ⟨-, z⟩
          · cases hi
          · exact z
        · rfl
        · rfl
        · rfl
        · rw [gX_sX, j4]
          exact fun q => ((L4.1.2.1.1.2.2 c hc).2 q : _)
        · show (if (4 : Nat) = 4 then S.2.1 else sPl h 4) < sNp h
          rw [if_pos rfl, j3]; exact hp
      have hn : xD (hPl h 4 S.2.1) = xD h := rfl
      obtain ⟨u, w⟩ := L5.1.2.1.2.2.2.1 c hc
      have e30 : sX I4 4 S.2.2 [22, 15, c] j = (I [11, c, 4] j) := by
        have q := congrFun u.2.2.1 j
        rw [q]
        show sX I4 4 S.2.2 [11, c, 4] j = I [11, c, 4] j
        rw [sX_ne _ _ _ (by omega)]
        exact congrFun (e4 _ (lvI_11 (by omega))) j
      have e : up (sX I4 4 S.2.2) [30] 0 (I [11, c, 4] j) [22, 15, c] j = (I [11, c, 4] j) := by rw [up_id (by simp)]; exact e30
      obtain ⟨m1, m2, m3, m4, m5, m6, hp', m7, g1', g2', g3'⟩ := L5.vw hc (I [11, c, 4] j)
      have ep : sPl (hPl h 4 S.2.1) c = sPl h c := if_neg (by omega)
      have k := c_X7_clockByReplay l (setG g0 a) (hPl h 4 S.2.1) (up (sX I4 4 S.2.2) [30] 0 (I [11, c, 4] j)) n (sNp h) h3 m2 (sPl h c) hp (sSz h (sPl h c)) g3 (by rw [up_id (by simp), ← ep]; exact g2') (sNc h) n4 m1 c hc (by rw [m3, ep]) j hj (by omega)
      rw [e] at k
      exact Or.inr ⟨a, hPl h 4 S.2.1, I4, up (sX I4 4 S.2.2) [30] 0 (I [11, c, 4] j), up (up (sX I4 4 S.2.2) [30] 0 (I [11, c, 4] j)) [20] 23 0, n, jn, (I [11, c, 4] j), _, _, _, _, 0, 0, fun _ _ => rfl, ⟨by omega, by omega, by omega, by omega, by omega, by omega, by omega⟩, fun H hH => by rw [hI4]; exact hH.nrm4,
        w_clockByReplay l (setG g0 a) (xD h) (xD h) I4 (sX I4 4 S.2.2) (xFh h) (xFh (hPl h 4 S.2.1)) n n _ _ 0 0 (nI c) (nI j) (I [11, c, 4] j) trivial trivial W6, k, up_at, by rw [up_id (by simp)]; exact up_at, fun z => by (cases z), L5.read (I [11, c, 4] j)⟩
