/-! CONTRACTS: the model, reads of a case that is not there -/
set_option maxHeartbeats 1000000 in
set_option maxRecDepth 100000 in
theorem c_X7_active_c (l : Launch) (g : xG) (h : xS) (I : xI) (n : Nat) (m : Nat) (hm4 : m ≤ 4) (hm : I [20] 20 = nI m) (x : Int32) (hxb : sIn x 0 (nI m) = false)  : xM l yX7_active (xws yX7_active cX7_active 2 (some FieldType.int)) 4 76 g [.ref (ga g [20]), .int x] (xR g (xD h) I (xFh h) n) (some (.int 0)) (xR g (xD h) (up I [20] 23 1) (xFh h) n) 0 0 := by
  refine xM.of (by decide) (Nat.le_of_ble_eq_true rfl) ?_
  intro P_ e_ s m_ bl_ mt_ cd_ ls hx hb hr hown hlocks hml hnm hE hK hts hH hS hl
  have hl : lv_has ls 2 [(0, .ref (ga g [20])), (1, .int x)] := hl
  refine lv_aload_n hx hb dX7_active_0 rfl (lv_at hl 0 rfl) ?_
  refine lv_iload_n hx hb dX7_active_1 rfl (lv_at hl 1 rfl) ?_
  refine x_V1 hx hb hml hown hE hS hl.1 cyX7_misses tw1090 (c_X7_misses_1 l g h I n m hm4 hm x hxb) ⟨Nat.le_of_ble_eq_true rfl, Nat.le_of_ble_eq_true rfl⟩ ⟨Nat.le_of_ble_eq_true rfl, Nat.le_of_ble_eq_true rfl⟩ (x_recv hK hH (id := [20]) (by first | trivial | (simp only [xD]; omega) | (simp [xD]; done) | (simp [xD]; omega)) (ci := 7) rfl (by decide) rfl) hH rfl rfl (Nat.le_of_ble_eq_true rfl) dX7_active_2 (fun H locs hH hS => ?_)
  obtain ⟨I1_, hI1_⟩ : ∃ z, z = (up I [20] 23 1) := ⟨_, rfl⟩
  rw [← hI1_] at hH
  refine lv_if_eq (tgt := 12) hx hb dX7_active_5 (by decide) (fun q_ => absurd q_ (by decide)) (fun _ => ?_)
  refine lv_iconst (v := 0) hx hb dX7_active_8 (by decide) ?_
  refine lv_goto (tgt := 19) hx hb dX7_active_9 (by decide) ?_
  exact x_iret hx hb hr hlocks hS dX7_active_19 rfl (by rw [hI1_] at hH; exact hH)

set_option maxHeartbeats 1000000 in
set_option maxRecDepth 100000 in
theorem c_X7_isOver_c (l : Launch) (g : xG) (h : xS) (I : xI) (n : Nat) (m : Nat) (hm4 : m ≤ 4) (hm : I [20] 20 = nI m) (x : Int32) (hxb : sIn x 0 (nI m) = false)  : xM l yX7_isOver (xws yX7_isOver cX7_isOver 4 (some FieldType.boolean)) 4 76 g [.ref (ga g [20]), .int x] (xR g (xD h) I (xFh h) n) (some (.int 0)) (xR g (xD h) (up I [20] 23 1) (xFh h) n) 0 0 := by
  refine xM.of (by decide) (Nat.le_of_ble_eq_true rfl) ?_
  intro P_ e_ s m_ bl_ mt_ cd_ ls hx hb hr hown hlocks hml hnm hE hK hts hH hS hl
  have hl : lv_has ls 4 [(0, .ref (ga g [20])), (1, .int x)] := hl
  refine lv_aload_n hx hb dX7_isOver_0 rfl (lv_at hl 0 rfl) ?_
  refine lv_iload_n hx hb dX7_isOver_1 rfl (lv_at hl 1 rfl) ?_
  refine x_V1 hx hb hml hown hE hS hl.1 cyX7_misses tw1090 (c_X7_misses_1 l g h I n m hm4 hm x hxb) ⟨Nat.le_of_ble_eq_true rfl, Nat.le_of_ble_eq_true rfl⟩ ⟨Nat.le_of_ble_eq_true rfl, Nat.le_of_ble_eq_true rfl⟩ (x_recv hK hH (id := [20]) (by first | trivial | (simp only [xD]; omega) | (simp [xD]; done) | (simp [xD]; omega)) (ci := 7) rfl (by decide) rfl) hH rfl rfl (Nat.le_of_ble_eq_true rfl) dX7_isOver_2 (fun H locs hH hS => ?_)
  obtain ⟨I1_, hI1_⟩ : ∃ z, z = (up I [20] 23 1) := ⟨_, rfl⟩
  rw [← hI1_] at hH
  refine lv_if_eq (tgt := 10) hx hb dX7_isOver_5 (by decide) (fun q_ => absurd q_ (by decide)) (fun _ => ?_)
  refine lv_iconst (v := 0) hx hb dX7_isOver_8 (by decide) ?_
  exact x_zret hx hb hr hlocks hS dX7_isOver_9 rfl rfl (by rw [hI1_] at hH; exact hH)

set_option maxHeartbeats 1000000 in
set_option maxRecDepth 100000 in
theorem c_X7_daysLeft_c (l : Launch) (g : xG) (h : xS) (I : xI) (n : Nat) (m : Nat) (hm4 : m ≤ 4) (hm : I [20] 20 = nI m) (x : Int32) (hxb : sIn x 0 (nI m) = false)  : xM l yX7_daysLeft (xws yX7_daysLeft cX7_daysLeft 7 (some FieldType.int)) 4 76 g [.ref (ga g [20]), .int x] (xR g (xD h) I (xFh h) n) (some (.int 0)) (xR g (xD h) (up I [20] 23 1) (xFh h) n) 0 0 := by
  refine xM.of (by decide) (Nat.le_of_ble_eq_true rfl) ?_
  intro P_ e_ s m_ bl_ mt_ cd_ ls hx hb hr hown hlocks hml hnm hE hK hts hH hS hl
  have hl : lv_has ls 7 [(0, .ref (ga g [20])), (1, .int x)] := hl
  refine lv_aload_n hx hb dX7_daysLeft_0 rfl (lv_at hl 0 rfl) ?_
  refine lv_iload_n hx hb dX7_daysLeft_1 rfl (lv_at hl 1 rfl) ?_
  refine x_V1 hx hb hml hown hE hS hl.1 cyX7_misses tw1090 (c_X7_misses_1 l g h I n m hm4 hm x hxb) ⟨Nat.le_of_ble_eq_true rfl, Nat.le_of_ble_eq_true rfl⟩ ⟨Nat.le_of_ble_eq_true rfl, Nat.le_of_ble_eq_true rfl⟩ (x_recv hK hH (id := [20]) (by first | trivial | (simp only [xD]; omega) | (simp [xD]; done) | (simp [xD]; omega)) (ci := 7) rfl (by decide) rfl) hH rfl rfl (Nat.le_of_ble_eq_true rfl) dX7_daysLeft_2 (fun H locs hH hS => ?_)
  obtain ⟨I1_, hI1_⟩ : ∃ z, z = (up I [20] 23 1) := ⟨_, rfl⟩
  rw [← hI1_] at hH
  refine lv_if_eq (tgt := 10) hx hb dX7_daysLeft_5 (by decide) (fun q_ => absurd q_ (by decide)) (fun _ => ?_)
  refine lv_iconst (v := 0) hx hb dX7_daysLeft_8 (by decide) ?_
  exact x_iret hx hb hr hlocks hS dX7_daysLeft_9 rfl (by rw [hI1_] at hH; exact hH)

set_option maxHeartbeats 1000000 in
set_option maxRecDepth 100000 in
theorem c_X7_doneShare_c (l : Launch) (g : xG) (h : xS) (I : xI) (n : Nat) (m : Nat) (hm4 : m ≤ 4) (hm : I [20] 20 = nI m) (x : Int32) (hxb : sIn x 0 (nI m) = false)  : xM l yX7_doneShare (xws yX7_doneShare cX7_doneShare 2 (some FieldType.float)) 4 76 g [.ref (ga g [20]), .int x] (xR g (xD h) I (xFh h) n) (some (.float 0)) (xR g (xD h) (up I [20] 23 1) (xFh h) n) 0 0 := by
  refine xM.of (by decide) (Nat.le_of_ble_eq_true rfl) ?_
  intro P_ e_ s m_ bl_ mt_ cd_ ls hx hb hr hown hlocks hml hnm hE hK hts hH hS hl
  have hl : lv_has ls 2 [(0, .ref (ga g [20])), (1, .int x)] := hl
  refine lv_aload_n hx hb dX7_doneShare_0 rfl (lv_at hl 0 rfl) ?_
  refine lv_iload_n hx hb dX7_doneShare_1 rfl (lv_at hl 1 rfl) ?_
  refine x_V1 hx hb hml hown hE hS hl.1 cyX7_misses tw1090 (c_X7_misses_1 l g h I n m hm4 hm x hxb) ⟨Nat.le_of_ble_eq_true rfl, Nat.le_of_ble_eq_true rfl⟩ ⟨Nat.le_of_ble_eq_true rfl, Nat.le_of_ble_eq_true rfl⟩ (x_recv hK hH (id := [20]) (by first | trivial | (simp only [xD]; omega) | (simp [xD]; done) | (simp [xD]; omega)) (ci := 7) rfl (by decide) rfl) hH rfl rfl (Nat.le_of_ble_eq_true rfl) dX7_doneShare_2 (fun H locs hH hS => ?_)
  obtain ⟨I1_, hI1_⟩ : ∃ z, z = (up I [20] 23 1) := ⟨_, rfl⟩
  rw [← hI1_] at hH
  refine lv_if_eq (tgt := 12) hx hb dX7_doneShare_5 (by decide) (fun q_ => absurd q_ (by decide)) (fun _ => ?_)
  refine lv_fconst0 hx hb dX7_doneShare_8 ?_
  refine lv_goto (tgt := 33) hx hb dX7_doneShare_9 (by decide) ?_
  exact x_fret hx hb hr hlocks hS dX7_doneShare_33 rfl (by rw [hI1_] at hH; exact hH)

set_option maxHeartbeats 1000000 in
set_option maxRecDepth 100000 in
theorem c_X7_isLate_c (l : Launch) (g : xG) (h : xS) (I : xI) (n : Nat) (m : Nat) (hm4 : m ≤ 4) (hm : I [20] 20 = nI m) (x y : Int32) (hxb : sIn x 0 (nI m) = false)  : xM l yX7_isLate (xws yX7_isLate cX7_isLate 3 (some FieldType.boolean)) 5 99 g [.ref (ga g [20]), .int x, .int y] (xR g (xD h) I (xFh h) n) (some (.int 0)) (xR g (xD h) (up I [20] 23 1) (xFh h) n) 0 0 := by
  refine xM.of (by decide) (Nat.le_of_ble_eq_true rfl) ?_
  intro P_ e_ s m_ bl_ mt_ cd_ ls hx hb hr hown hlocks hml hnm hE hK hts hH hS hl
  have hl : lv_has ls 3 [(0, .ref (ga g [20])), (1, .int x), (2, .int y)] := hl
  refine lv_aload_n hx hb dX7_isLate_0 rfl (lv_at hl 0 rfl) ?_
  refine lv_iload_n hx hb dX7_isLate_1 rfl (lv_at hl 1 rfl) ?_
  refine lv_iload_n hx hb dX7_isLate_2 rfl (lv_at hl 2 rfl) ?_
  refine x_V1 hx hb hml hown hE hS hl.1 cyX7_lacks tw1060 (c_X7_lacks_1 l g h I n m hm4 hm x y hxb) ⟨Nat.le_of_ble_eq_true rfl, Nat.le_of_ble_eq_true rfl⟩ ⟨Nat.le_of_ble_eq_true rfl, Nat.le_of_ble_eq_true rfl⟩ (x_recv hK hH (id := [20]) (by first | trivial | (simp only [xD]; omega) | (simp [xD]; done) | (simp [xD]; omega)) (ci := 7) rfl (by decide) rfl) hH rfl rfl (Nat.le_of_ble_eq_true rfl) dX7_isLate_3 (fun H locs hH hS => ?_)
  obtain ⟨I1_, hI1_⟩ : ∃ z, z = (up I [20] 23 1) := ⟨_, rfl⟩
  rw [← hI1_] at hH
  refine lv_if_ne (tgt := 22) hx hb dX7_isLate_6 (by decide) (fun _ => ?_) (fun q_ => absurd q_ (by decide))
  refine lv_iconst (v := 0) hx hb dX7_isLate_22 (by decide) ?_
  exact x_zret hx hb hr hlocks hS dX7_isLate_23 rfl rfl (by rw [hI1_] at hH; exact hH)

set_option maxHeartbeats 1000000 in
set_option maxRecDepth 100000 in
theorem c_X7_isLate_s (l : Launch) (g : xG) (h : xS) (I : xI) (n : Nat) (q : Nat) (hq : q ≤ 3) (hz : I [20] 10 = nI q) (p : Nat) (hp : p < q) (k : Nat) (hk : k ≤ 8) (hs : I [24, 8] p = nI k) (m : Nat) (hm4 : m ≤ 4) (hm : I [20] 20 = nI m) (c : Nat) (hc : c < m) (hpo : I [24, 11] c = nI p) (y : Int32) (hy : sIn y 0 (nI k) = false)  : xM l yX7_isLate (xws yX7_isLate cX7_isLate 3 (some FieldType.boolean)) 6 121 g [.ref (ga g [20]), .int (nI c), .int y] (xR g (xD h) I (xFh h) n) (some (.int 0)) (xR g (xD h) (up I [20] 23 1) (xFh h) n) 0 0 := by
  refine xM.of (by decide) (Nat.le_of_ble_eq_true rfl) ?_
  intro P_ e_ s m_ bl_ mt_ cd_ ls hx hb hr hown hlocks hml hnm hE hK hts hH hS hl
  have hl : lv_has ls 3 [(0, .ref (ga g [20])), (1, .int (nI c)), (2, .int y)] := hl
  refine lv_aload_n hx hb dX7_isLate_0 rfl (lv_at hl 0 rfl) ?_
  refine lv_iload_n hx hb dX7_isLate_1 rfl (lv_at hl 1 rfl) ?_
  refine lv_iload_n hx hb dX7_isLate_2 rfl (lv_at hl 2 rfl) ?_
  refine x_V1 hx hb hml hown hE hS hl.1 cyX7_lacks tw1060 (c_X7_lacks_2 l g h I n q hq hz p hp k hk hs m hm4 hm c hc hpo y hy) ⟨Nat.le_of_ble_eq_true rfl, Nat.le_of_ble_eq_true rfl⟩ ⟨Nat.le_of_ble_eq_true rfl, Nat.le_of_ble_eq_true rfl⟩ (x_recv hK hH (id := [20]) (by first | trivial | (simp only [xD]; omega) | (simp [xD]; done) | (simp [xD]; omega)) (ci := 7) rfl (by decide) rfl) hH rfl rfl (Nat.le_of_ble_eq_true rfl) dX7_isLate_3 (fun H locs hH hS => ?_)
  obtain ⟨I1_, hI1_⟩ : ∃ z, z = (up I [20] 23 1) := ⟨_, rfl⟩
  rw [← hI1_] at hH
  refine lv_if_ne (tgt := 22) hx hb dX7_isLate_6 (by decide) (fun _ => ?_) (fun q_ => absurd q_ (by decide))
  refine lv_iconst (v := 0) hx hb dX7_isLate_22 (by decide) ?_
  exact x_zret hx hb hr hlocks hS dX7_isLate_23 rfl rfl (by rw [hI1_] at hH; exact hH)

set_option maxHeartbeats 1000000 in
set_option maxRecDepth 100000 in
theorem c_X7_holds_c (l : Launch) (g : xG) (h : xS) (I : xI) (n : Nat) (m : Nat) (hm4 : m ≤ 4) (hm : I [20] 20 = nI m) (x y f z : Int32) (hxb : sIn x 0 (nI m) = false)  : xM l yX7_holds (xws yX7_holds cX7_holds 6 (some FieldType.boolean)) 5 99 g [.ref (ga g [20]), .int x, .int y, .int f, .int z] (xR g (xD h) I (xFh h) n) (some (.int 0)) (xR g (xD h) (up I [20] 23 1) (xFh h) n) 0 0 := by
  refine xM.of (by decide) (Nat.le_of_ble_eq_true rfl) ?_
  intro P_ e_ s m_ bl_ mt_ cd_ ls hx hb hr hown hlocks hml hnm hE hK hts hH hS hl
  have hl : lv_has ls 6 [(0, .ref (ga g [20])), (1, .int x), (2, .int y), (3, .int f), (4, .int z)] := hl
  refine lv_aload_n hx hb dX7_holds_0 rfl (lv_at hl 0 rfl) ?_
  refine lv_iload_n hx hb dX7_holds_1 rfl (lv_at hl 1 rfl) ?_
  refine lv_iload_n hx hb dX7_holds_2 rfl (lv_at hl 2 rfl) ?_
  refine x_V1 hx hb hml hown hE hS hl.1 cyX7_lacks tw1060 (c_X7_lacks_1 l g h I n m hm4 hm x y hxb) ⟨Nat.le_of_ble_eq_true rfl, Nat.le_of_ble_eq_true rfl⟩ ⟨Nat.le_of_ble_eq_true rfl, Nat.le_of_ble_eq_true rfl⟩ (x_recv hK hH (id := [20]) (by first | trivial | (simp only [xD]; omega) | (simp [xD]; done) | (simp [xD]; omega)) (ci := 7) rfl (by decide) rfl) hH rfl rfl (Nat.le_of_ble_eq_true rfl) dX7_holds_3 (fun H locs hH hS => ?_)
  obtain ⟨I1_, hI1_⟩ : ∃ z, z = (up I [20] 23 1) := ⟨_, rfl⟩
  rw [← hI1_] at hH
  refine lv_if_eq (tgt := 11) hx hb dX7_holds_6 (by decide) (fun q_ => absurd q_ (by decide)) (fun _ => ?_)
  refine lv_iconst (v := 0) hx hb dX7_holds_9 (by decide) ?_
  exact x_zret hx hb hr hlocks hS dX7_holds_10 rfl rfl (by rw [hI1_] at hH; exact hH)

set_option maxHeartbeats 1000000 in
set_option maxRecDepth 100000 in
theorem c_X7_holds_s (l : Launch) (g : xG) (h : xS) (I : xI) (n : Nat) (q : Nat) (hq : q ≤ 3) (hz : I [20] 10 = nI q) (p : Nat) (hp : p < q) (k : Nat) (hk : k ≤ 8) (hs : I [24, 8] p = nI k) (m : Nat) (hm4 : m ≤ 4) (hm : I [20] 20 = nI m) (c : Nat) (hc : c < m) (hpo : I [24, 11] c = nI p) (y f z : Int32) (hy : sIn y 0 (nI k) = false)  : xM l yX7_holds (xws yX7_holds cX7_holds 6 (some FieldType.boolean)) 6 121 g [.ref (ga g [20]), .int (nI c), .int y, .int f, .int z] (xR g (xD h) I (xFh h) n) (some (.int 0)) (xR g (xD h) (up I [20] 23 1) (xFh h) n) 0 0 := by
  refine xM.of (by decide) (Nat.le_of_ble_eq_true rfl) ?_
  intro P_ e_ s m_ bl_ mt_ cd_ ls hx hb hr hown hlocks hml hnm hE hK hts hH hS hl
  have hl : lv_has ls 6 [(0, .ref (ga g [20])), (1, .int (nI c)), (2, .int y), (3, .int f), (4, .int z)] := hl
  refine lv_aload_n hx hb dX7_holds_0 rfl (lv_at hl 0 rfl) ?_
  refine lv_iload_n hx hb dX7_holds_1 rfl (lv_at hl 1 rfl) ?_
  refine lv_iload_n hx hb dX7_holds_2 rfl (lv_at hl 2 rfl) ?_
  refine x_V1 hx hb hml hown hE hS hl.1 cyX7_lacks tw1060 (c_X7_lacks_2 l g h I n q hq hz p hp k hk hs m hm4 hm c hc hpo y hy) ⟨Nat.le_of_ble_eq_true rfl, Nat.le_of_ble_eq_true rfl⟩ ⟨Nat.le_of_ble_eq_true rfl, Nat.le_of_ble_eq_true rfl⟩ (x_recv hK hH (id := [20]) (by first | trivial | (simp only [xD]; omega) | (simp [xD]; done) | (simp [xD]; omega)) (ci := 7) rfl (by decide) rfl) hH rfl rfl (Nat.le_of_ble_eq_true rfl) dX7_holds_3 (fun H locs hH hS => ?_)
  obtain ⟨I1_, hI1_⟩ : ∃ z, z = (up I [20] 23 1) := ⟨_, rfl⟩
  rw [← hI1_] at hH
  refine lv_if_eq (tgt := 11) hx hb dX7_holds_6 (by decide) (fun q_ => absurd q_ (by decide)) (fun _ => ?_)
  refine lv_iconst (v := 0) hx hb dX7_holds_9 (by decide) ?_
  exact x_zret hx hb hr hlocks hS dX7_holds_10 rfl rfl (by rw [hI1_] at hH; exact hH)
