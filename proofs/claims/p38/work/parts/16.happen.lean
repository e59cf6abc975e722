/-! CONTRACTS: what happens to a case -/
set_option maxHeartbeats 1000000 in
set_option maxRecDepth 100000 in
theorem c_X6_planAt (l : Launch) (g : xG) (h : xS) (I : xI) (n : Nat) (p : Nat) (hpp : p < sNp h) (h3 : sNp h ≤ 3) (hz : I [0] 1 = nI (sNp h)) : xM l yX6_planAt (xws yX6_planAt cX6_planAt 2 (some (FieldType.object "CasebookSteps$Plan"))) 1 12 g [.ref (ga g [0]), .int (nI p)] (xR g (xD h) I (xFh h) n) (some (.ref (ga g [5, p]))) (xR g (xD h) I (xFh h) n) 0 0 := by
  refine xM.of (by decide) (Nat.le_of_ble_eq_true rfl) ?_
  intro P_ e_ s m_ bl_ mt_ cd_ ls hx hb hr hown hlocks hml hnm hE hK hts hH hS hl
  have hl : lv_has ls 2 [(0, .ref (ga g [0])), (1, .int (nI p))] := hl
  refine lv_iload_n hx hb dX6_planAt_0 rfl (lv_at hl 1 rfl) ?_
  refine lv_if_lt (tgt := 17) hx hb dX6_planAt_1 (by decide) (fun q_ => absurd q_ (fun z_ => absurd ((nI_ltI (a := p) (b := 0) (by omega) (by omega)).mp z_) (by omega))) (fun _ => ?_)
  refine lv_iload_n hx hb dX6_planAt_4 rfl (lv_at hl 1 rfl) ?_
  refine lv_aload_n hx hb dX6_planAt_5 rfl (lv_at hl 0 rfl) ?_
  refine x_get (C := RX6) (T := TX6) (N := 6) (ci := 6) hx hb hts iu6 hown hK hH (id := [0]) (by first | trivial | (simp only [xD]; omega) | (simp [xD]; done) | (simp [xD]; omega)) rfl rfl (by decide) 1 (by decide) (hts _ tw132) (fun _ h9 => h9) rfl (v := .int (nI (sNp h))) (congrArg Value.int hz) dX6_planAt_6 ?_
  refine lv_icmp_ge (tgt := 17) hx hb dX6_planAt_9 (by decide) (fun q_ => absurd q_ (fun z_ => absurd ((nI_leI (a := (sNp h)) (b := p) (by omega) (by omega)).mp z_) (by omega))) (fun _ => ?_)
  refine lv_iload_n hx hb dX6_planAt_12 rfl (lv_at hl 1 rfl) ?_
  refine lv_iconst (v := 3) hx hb dX6_planAt_13 (by decide) ?_
  refine lv_icmp_lt (tgt := 21) hx hb dX6_planAt_14 (by decide) (fun _ => ?_) (fun q_ => absurd ((nI_ltI (a := p) (b := 3) (by omega) (by omega)).mpr (by omega)) q_)
  refine lv_aload_n hx hb dX6_planAt_21 rfl (lv_at hl 0 rfl) ?_
  refine x_get (C := RX6) (T := TX6) (N := 6) (ci := 6) hx hb hts iu6 hown hK hH (id := [0]) (by first | trivial | (simp only [xD]; omega) | (simp [xD]; done) | (simp [xD]; omega)) rfl rfl (by decide) 0 (by decide) (hts _ tw131) (fun _ h9 => h9) rfl (v := .ref (ga g [1])) rfl dX6_planAt_22 ?_
  refine lv_iload_n hx hb dX6_planAt_25 rfl (lv_at hl 1 rfl) ?_
  refine x_aald hx hb hK hH (id := [1]) (by first | trivial | (simp only [xD]; omega) | (simp [xD]; done) | (simp [xD]; omega)) 3 (L := 3) rfl (by decide) p rfl (by omega) (by decide) (v := .ref (ga g [5, p])) (by show rq _ (if _ then _ else _) = _; rw [if_pos (by omega)]; rfl) dX6_planAt_26 ?_
  exact x_aret hx hb hr hlocks hS dX6_planAt_27 (Or.inr ⟨_, rfl⟩) rfl hH

set_option maxHeartbeats 1000000 in
set_option maxRecDepth 100000 in
theorem c_X6_planAt_no (l : Launch) (g : xG) (h : xS) (I : xI) (n : Nat) (x : Int32) (hz : I [0] 1 = nI (sNp h)) (hx0 : x < 0 ∨ nI (sNp h) ≤ x) : xM l yX6_planAt (xws yX6_planAt cX6_planAt 2 (some (FieldType.object "CasebookSteps$Plan"))) 1 12 g [.ref (ga g [0]), .int x] (xR g (xD h) I (xFh h) n) (some (.null)) (xR g (xD h) I (xFh h) n) 0 0 := by
  refine xM.of (by decide) (Nat.le_of_ble_eq_true rfl) ?_
  intro P_ e_ s m_ bl_ mt_ cd_ ls hx hb hr hown hlocks hml hnm hE hK hts hH hS hl
  have hl : lv_has ls 2 [(0, .ref (ga g [0])), (1, .int x)] := hl
  refine lv_iload_n hx hb dX6_planAt_0 rfl (lv_at hl 1 rfl) ?_
  refine lv_if_lt (tgt := 17) hx hb dX6_planAt_1 (by decide) (fun c_1 => ?_) (fun c_1 => ?_)
  · skip
    refine lv_null hx hb dX6_planAt_17 ?_
    refine lv_goto (tgt := 27) hx hb dX6_planAt_18 (by decide) ?_
    exact x_aret hx hb hr hlocks hS dX6_planAt_27 (Or.inl rfl) rfl hH
  · skip
    refine lv_iload_n hx hb dX6_planAt_4 rfl (lv_at hl 1 rfl) ?_
    refine lv_aload_n hx hb dX6_planAt_5 rfl (lv_at hl 0 rfl) ?_
    refine x_get (C := RX6) (T := TX6) (N := 6) (ci := 6) hx hb hts iu6 hown hK hH (id := [0]) (by first | trivial | (simp only [xD]; omega) | (simp [xD]; done) | (simp [xD]; omega)) rfl rfl (by decide) 1 (by decide) (hts _ tw132) (fun _ h9 => h9) rfl (v := .int (nI (sNp h))) (congrArg Value.int hz) dX6_planAt_6 ?_
    refine lv_icmp_ge (tgt := 17) hx hb dX6_planAt_9 (by decide) (fun _ => ?_) (fun q_ => absurd (hx0.resolve_left c_1) q_)
    refine lv_null hx hb dX6_planAt_17 ?_
    refine lv_goto (tgt := 27) hx hb dX6_planAt_18 (by decide) ?_
    exact x_aret hx hb hr hlocks hS dX6_planAt_27 (Or.inl rfl) rfl hH

set_option maxHeartbeats 1000000 in
set_option maxRecDepth 100000 in
theorem c_X6_caseAt (l : Launch) (g : xG) (h : xS) (I : xI) (n : Nat) (c : Nat) (hc : c < sNc h) (h4 : sNc h ≤ 4) (hz : I [0] 3 = nI (sNc h)) : xM l yX6_caseAt (xws yX6_caseAt cX6_caseAt 2 (some (FieldType.object "CasebookSteps$Case"))) 1 12 g [.ref (ga g [0]), .int (nI c)] (xR g (xD h) I (xFh h) n) (some (.ref (ga g [11, c, 0]))) (xR g (xD h) I (xFh h) n) 0 0 := by
  refine xM.of (by decide) (Nat.le_of_ble_eq_true rfl) ?_
  intro P_ e_ s m_ bl_ mt_ cd_ ls hx hb hr hown hlocks hml hnm hE hK hts hH hS hl
  have hl : lv_has ls 2 [(0, .ref (ga g [0])), (1, .int (nI c))] := hl
  refine lv_iload_n hx hb dX6_caseAt_0 rfl (lv_at hl 1 rfl) ?_
  refine lv_if_lt (tgt := 17) hx hb dX6_caseAt_1 (by decide) (fun q_ => absurd q_ (fun z_ => absurd ((nI_ltI (a := c) (b := 0) (by omega) (by omega)).mp z_) (by omega))) (fun _ => ?_)
  refine lv_iload_n hx hb dX6_caseAt_4 rfl (lv_at hl 1 rfl) ?_
  refine lv_aload_n hx hb dX6_caseAt_5 rfl (lv_at hl 0 rfl) ?_
  refine x_get (C := RX6) (T := TX6) (N := 6) (ci := 6) hx hb hts iu6 hown hK hH (id := [0]) (by first | trivial | (simp only [xD]; omega) | (simp [xD]; done) | (simp [xD]; omega)) rfl rfl (by decide) 3 (by decide) (hts _ tw134) (fun _ h9 => h9) rfl (v := .int (nI (sNc h))) (congrArg Value.int hz) dX6_caseAt_6 ?_
  refine lv_icmp_ge (tgt := 17) hx hb dX6_caseAt_9 (by decide) (fun q_ => absurd q_ (fun z_ => absurd ((nI_leI (a := (sNc h)) (b := c) (by omega) (by omega)).mp z_) (by omega))) (fun _ => ?_)
  refine lv_iload_n hx hb dX6_caseAt_12 rfl (lv_at hl 1 rfl) ?_
  refine lv_iconst (v := 4) hx hb dX6_caseAt_13 (by decide) ?_
  refine lv_icmp_lt (tgt := 21) hx hb dX6_caseAt_14 (by decide) (fun _ => ?_) (fun q_ => absurd ((nI_ltI (a := c) (b := 4) (by omega) (by omega)).mpr (by omega)) q_)
  refine lv_aload_n hx hb dX6_caseAt_21 rfl (lv_at hl 0 rfl) ?_
  refine x_get (C := RX6) (T := TX6) (N := 6) (ci := 6) hx hb hts iu6 hown hK hH (id := [0]) (by first | trivial | (simp only [xD]; omega) | (simp [xD]; done) | (simp [xD]; omega)) rfl rfl (by decide) 2 (by decide) (hts _ tw133) (fun _ h9 => h9) rfl (v := .ref (ga g [2])) rfl dX6_caseAt_22 ?_
  refine lv_iload_n hx hb dX6_caseAt_25 rfl (lv_at hl 1 rfl) ?_
  refine x_aald hx hb hK hH (id := [2]) (by first | trivial | (simp only [xD]; omega) | (simp [xD]; done) | (simp [xD]; omega)) 4 (L := 4) rfl (by decide) c rfl (by omega) (by decide) (v := .ref (ga g [11, c, 0])) (by show rq _ (if _ then _ else _) = _; rw [if_pos (by omega)]; rfl) dX6_caseAt_26 ?_
  exact x_aret hx hb hr hlocks hS dX6_caseAt_27 (Or.inr ⟨_, rfl⟩) rfl hH

set_option maxHeartbeats 1000000 in
set_option maxRecDepth 100000 in
theorem c_X6_caseAt_no (l : Launch) (g : xG) (h : xS) (I : xI) (n : Nat) (x : Int32) (hz : I [0] 3 = nI (sNc h)) (hx0 : x < 0 ∨ nI (sNc h) ≤ x) : xM l yX6_caseAt (xws yX6_caseAt cX6_caseAt 2 (some (FieldType.object "CasebookSteps$Case"))) 1 12 g [.ref (ga g [0]), .int x] (xR g (xD h) I (xFh h) n) (some (.null)) (xR g (xD h) I (xFh h) n) 0 0 := by
  refine xM.of (by decide) (Nat.le_of_ble_eq_true rfl) ?_
  intro P_ e_ s m_ bl_ mt_ cd_ ls hx hb hr hown hlocks hml hnm hE hK hts hH hS hl
  have hl : lv_has ls 2 [(0, .ref (ga g [0])), (1, .int x)] := hl
  refine lv_iload_n hx hb dX6_caseAt_0 rfl (lv_at hl 1 rfl) ?_
  refine lv_if_lt (tgt := 17) hx hb dX6_caseAt_1 (by decide) (fun c_1 => ?_) (fun c_1 => ?_)
  · skip
    refine lv_null hx hb dX6_caseAt_17 ?_
    refine lv_goto (tgt := 27) hx hb dX6_caseAt_18 (by decide) ?_
    exact x_aret hx hb hr hlocks hS dX6_caseAt_27 (Or.inl rfl) rfl hH
  · skip
    refine lv_iload_n hx hb dX6_caseAt_4 rfl (lv_at hl 1 rfl) ?_
    refine lv_aload_n hx hb dX6_caseAt_5 rfl (lv_at hl 0 rfl) ?_
    refine x_get (C := RX6) (T := TX6) (N := 6) (ci := 6) hx hb hts iu6 hown hK hH (id := [0]) (by first | trivial | (simp only [xD]; omega) | (simp [xD]; done) | (simp [xD]; omega)) rfl rfl (by decide) 3 (by decide) (hts _ tw134) (fun _ h9 => h9) rfl (v := .int (nI (sNc h))) (congrArg Value.int hz) dX6_caseAt_6 ?_
    refine lv_icmp_ge (tgt := 17) hx hb dX6_caseAt_9 (by decide) (fun _ => ?_) (fun q_ => absurd (hx0.resolve_left c_1) q_)
    refine lv_null hx hb dX6_caseAt_17 ?_
    refine lv_goto (tgt := 27) hx hb dX6_caseAt_18 (by decide) ?_
    exact x_aret hx hb hr hlocks hS dX6_caseAt_27 (Or.inl rfl) rfl hH

set_option maxHeartbeats 1000000 in
set_option maxRecDepth 100000 in
theorem c_X4_isStage (l : Launch) (g : xG) (h : xS) (I : xI) (n : Nat) (p j : Nat) (hpp : p < sNp h) (hj : j < sSz h p) (h8 : sSz h p ≤ 8) (hz : I [5, p] 2 = nI (sSz h p)) : xM l yX4_isStage (xws yX4_isStage cX4_isStage 3 (some FieldType.boolean)) 2 33 g [.ref (ga g [5, p]), .int (nI j)] (xR g (xD h) I (xFh h) n) (some (.int (b01 (decide (I [7, p, j] 0 = 115))))) (xR g (xD h) I (xFh h) n) 0 0 := by
  refine xM.of (by decide) (Nat.le_of_ble_eq_true rfl) ?_
  intro P_ e_ s m_ bl_ mt_ cd_ ls hx hb hr hown hlocks hml hnm hE hK hts hH hS hl
  have hl : lv_has ls 3 [(0, .ref (ga g [5, p])), (1, .int (nI j))] := hl
  refine lv_aload_n hx hb dX4_isStage_0 rfl (lv_at hl 0 rfl) ?_
  refine lv_iload_n hx hb dX4_isStage_1 rfl (lv_at hl 1 rfl) ?_
  refine x_V1 hx hb hml hown hE hS hl.1 cyX4_stepAt tw291 (c_X4_stepAt l g h I n p j hpp hj h8 hz) ⟨Nat.le_of_ble_eq_true rfl, Nat.le_of_ble_eq_true rfl⟩ ⟨Nat.le_of_ble_eq_true rfl, Nat.le_of_ble_eq_true rfl⟩ (x_recv hK hH (id := [5, p]) (by first | trivial | (simp only [xD]; omega) | (simp [xD]; done) | (simp [xD]; omega)) (ci := 4) rfl (by decide) rfl) hH rfl rfl (Nat.le_of_ble_eq_true rfl) dX4_isStage_2 (fun H locs hH hS => ?_)
  refine lv_astore_n (lv' := [(2, .ref (ga g [7, p, j])), (0, .ref (ga g [5, p])), (1, .int (nI j))]) hx hb dX4_isStage_5 rfl hl (by decide) rfl (fun ls hl => ?_)
  refine lv_aload_n hx hb dX4_isStage_6 rfl (lv_at hl 0 rfl) ?_
  refine lv_ifnull hx hb dX4_isStage_7 ?_
  refine lv_aload_n hx hb dX4_isStage_10 rfl (lv_at hl 0 rfl) ?_
  refine x_get (C := RX5) (T := TX5) (N := 7) (ci := 5) hx hb hts iu5 hown hK hH (id := [7, p, j]) (by first | trivial | (simp only [xD]; omega) | (simp [xD]; done) | (simp [xD]; omega)) rfl rfl (by decide) 0 (by decide) (hts _ tw325) (fun _ h9 => h9) rfl (v := .int (I [7, p, j] 0)) rfl dX4_isStage_11 ?_
  refine lv_bipush (v := 115) hx hb dX4_isStage_14 (by decide) ?_
  refine lv_icmp_ne (tgt := 23) hx hb dX4_isStage_16 (by decide) (fun c_16 => ?_) (fun c_16 => ?_)
  · skip
    refine lv_iconst (v := 0) hx hb dX4_isStage_23 (by decide) ?_
    exact x_zret hx hb hr hlocks hS dX4_isStage_24 rfl (b01_f (by simp [*])) hH
  · skip
    refine lv_iconst (v := 1) hx hb dX4_isStage_19 (by decide) ?_
    refine lv_goto (tgt := 24) hx hb dX4_isStage_20 (by decide) ?_
    exact x_zret hx hb hr hlocks hS dX4_isStage_24 rfl (b01_t (by simp [*])) hH

set_option maxHeartbeats 1000000 in
set_option maxRecDepth 100000 in
theorem c_X4_isStage_no (l : Launch) (g : xG) (h : xS) (I : xI) (n : Nat) (p : Nat) (x : Int32) (hpp : p < sNp h) (hz : I [5, p] 2 = nI (sSz h p)) (hx0 : x < 0 ∨ nI (sSz h p) ≤ x) : xM l yX4_isStage (xws yX4_isStage cX4_isStage 3 (some FieldType.boolean)) 2 33 g [.ref (ga g [5, p]), .int x] (xR g (xD h) I (xFh h) n) (some (.int 0)) (xR g (xD h) I (xFh h) n) 0 0 := by
  refine xM.of (by decide) (Nat.le_of_ble_eq_true rfl) ?_
  intro P_ e_ s m_ bl_ mt_ cd_ ls hx hb hr hown hlocks hml hnm hE hK hts hH hS hl
  have hl : lv_has ls 3 [(0, .ref (ga g [5, p])), (1, .int x)] := hl
  refine lv_aload_n hx hb dX4_isStage_0 rfl (lv_at hl 0 rfl) ?_
  refine lv_iload_n hx hb dX4_isStage_1 rfl (lv_at hl 1 rfl) ?_
  refine x_V1 hx hb hml hown hE hS hl.1 cyX4_stepAt tw291 (c_X4_stepAt_no l g h I n p x (Or.inl hpp) hz hx0) ⟨Nat.le_of_ble_eq_true rfl, Nat.le_of_ble_eq_true rfl⟩ ⟨Nat.le_of_ble_eq_true rfl, Nat.le_of_ble_eq_true rfl⟩ (x_recv hK hH (id := [5, p]) (by first | trivial | (simp only [xD]; omega) | (simp [xD]; done) | (simp [xD]; omega)) (ci := 4) rfl (by decide) rfl) hH rfl rfl (Nat.le_of_ble_eq_true rfl) dX4_isStage_2 (fun H locs hH hS => ?_)
  refine lv_astore_nN (lv' := [(2, .null), (0, .ref (ga g [5, p])), (1, .int x)]) hx hb dX4_isStage_5 rfl hl (by decide) rfl (fun ls hl => ?_)
  refine lv_aload_nN hx hb dX4_isStage_6 rfl (lv_at hl 0 rfl) ?_
  refine lv_ifnullN (tgt := 23) hx hb dX4_isStage_7 (by decide) ?_
  refine lv_iconst (v := 0) hx hb dX4_isStage_23 (by decide) ?_
  exact x_zret hx hb hr hlocks hS dX4_isStage_24 rfl rfl hH

def sJ (I : xI) (jn : Nat) (a b x y : Int32) : xI := up (up (up (up (up I [4, 0] jn a) [4, 1] jn b) [4, 2] jn x) [4, 3] jn y) [3] 4 (nI (jn + 1))
theorem sX_upJ (I : xI) (c : Nat) (X : xX) (id : List Nat) (k : Nat) (v : Int32) (h : ∀ f, id ≠ [11, c, f]) : up (sX I c X) id k v = sX (up I id k v) c X := by
  funext i q
  rcases sX_cases I c X i with ⟨f, rfl, e⟩ | ⟨h0, e⟩
  · rw [sX_at, up_id (fun z => h f z.symm), sX_at]
  · rcases sX_cases (up I id k v) c X i with ⟨f, rfl, -⟩ | ⟨-, e2⟩
    · exact absurd rfl (h0 f)
    · rw [e2]; unfold up; rw [e]
theorem sX_sJ (I : xI) (c : Nat) (X : xX) (jn : Nat) (a b x y : Int32) : sJ (sX I c X) jn a b x y = sX (sJ I jn a b x y) c X := by
  unfold sJ
  rw [sX_upJ _ _ _ _ _ _ (fun f => by simp), sX_upJ _ _ _ _ _ _ (fun f => by simp), sX_upJ _ _ _ _ _ _ (fun f => by simp), sX_upJ _ _ _ _ _ _ (fun f => by simp), sX_upJ _ _ _ _ _ _ (fun f => by simp)]
set_option maxHeartbeats 1000000 in
set_option maxRecDepth 100000 in
theorem c_X3_append (l : Launch) (g : xG) (h : xS) (I : xI) (n : Nat) (jn : Nat) (a b x y : Int32) (hjn : jn < 512) (hz : I [3] 4 = nI jn) : xM l yX3_append (xws yX3_append cX3_append 5 none) 1 12 g [.ref (ga g [3]), .int a, .int b, .int x, .int y] (xR g (xD h) I (xFh h) n) none (xR g (xD h) (sJ I jn a b x y) (xFh h) n) 0 0 := by
  refine xM.of (by decide) (Nat.le_of_ble_eq_true rfl) ?_
  intro P_ e_ s m_ bl_ mt_ cd_ ls hx hb hr hown hlocks hml hnm hE hK hts hH hS hl
  have hl : lv_has ls 5 [(0, .ref (ga g [3])), (1, .int a), (2, .int b), (3, .int x), (4, .int y)] := hl
  refine lv_aload_n hx hb dX3_append_0 rfl (lv_at hl 0 rfl) ?_
  refine x_get (C := RX3) (T := TX3) (N := 5) (ci := 3) hx hb hts iu3 hown hK hH (id := [3]) (by first | trivial | (simp only [xD]; omega) | (simp [xD]; done) | (simp [xD]; omega)) rfl rfl (by decide) 4 (by decide) (hts _ tw47) (fun _ h9 => h9) rfl (v := .int (nI jn)) (congrArg Value.int (by first | exact hz | (simp only [*]; simp [up, hz]; done))) dX3_append_1 ?_
  refine lv_if_lt (tgt := 17) hx hb dX3_append_4 (by decide) (fun q_ => absurd q_ (fun z_ => absurd ((nI_ltI (a := jn) (b := 0) (by omega) (by omega)).mp z_) (by omega))) (fun _ => ?_)
  refine lv_aload_n hx hb dX3_append_7 rfl (lv_at hl 0 rfl) ?_
  refine x_get (C := RX3) (T := TX3) (N := 5) (ci := 3) hx hb hts iu3 hown hK hH (id := [3]) (by first | trivial | (simp only [xD]; omega) | (simp [xD]; done) | (simp [xD]; omega)) rfl rfl (by decide) 4 (by decide) (hts _ tw47) (fun _ h9 => h9) rfl (v := .int (nI jn)) (congrArg Value.int (by first | exact hz | (simp only [*]; simp [up, hz]; done))) dX3_append_8 ?_
  refine lv_sipush (v := 512) hx hb dX3_append_11 (by decide) ?_
  refine lv_icmp_lt (tgt := 18) hx hb dX3_append_14 (by decide) (fun _ => ?_) (fun q_ => absurd ((nI_ltI (a := jn) (b := 512) (by omega) (by omega)).mpr (by omega)) q_)
  refine lv_aload_n hx hb dX3_append_18 rfl (lv_at hl 0 rfl) ?_
  refine x_get (C := RX3) (T := TX3) (N := 5) (ci := 3) hx hb hts iu3 hown hK hH (id := [3]) (by first | trivial | (simp only [xD]; omega) | (simp [xD]; done) | (simp [xD]; omega)) rfl rfl (by decide) 0 (by decide) (hts _ tw39) (fun _ h9 => h9) rfl (v := .ref (ga g [4, 0])) rfl dX3_append_19 ?_
  refine lv_aload_n hx hb dX3_append_22 rfl (lv_at hl 0 rfl) ?_
  refine x_get (C := RX3) (T := TX3) (N := 5) (ci := 3) hx hb hts iu3 hown hK hH (id := [3]) (by first | trivial | (simp only [xD]; omega) | (simp [xD]; done) | (simp [xD]; omega)) rfl rfl (by decide) 4 (by decide) (hts _ tw47) (fun _ h9 => h9) rfl (v := .int (nI jn)) (congrArg Value.int (by first | exact hz | (simp only [*]; simp [up, hz]; done))) dX3_append_23 ?_
  refine lv_iload_n hx hb dX3_append_26 rfl (lv_at hl 1 rfl) ?_
  obtain ⟨I1_, hI1_⟩ : ∃ z, z = up I [4, 0] jn a := ⟨_, rfl⟩
  refine x_iast hx hb hK hH hS (id := [4, 0]) (by first | trivial | (simp only [xD]; omega) | (simp [xD]; done) | (simp [xD]; omega)) (L := 512) rfl jn rfl (by omega) (by decide) hI1_.symm dX3_append_27 (fun H locs hH hS => ?_)
  refine lv_aload_n hx hb dX3_append_28 rfl (lv_at hl 0 rfl) ?_
  refine x_get (C := RX3) (T := TX3) (N := 5) (ci := 3) hx hb hts iu3 hown hK hH (id := [3]) (by first | trivial | (simp only [xD]; omega) | (simp [xD]; done) | (simp [xD]; omega)) rfl rfl (by decide) 1 (by decide) (hts _ tw41) (fun _ h9 => h9) rfl (v := .ref (ga g [4, 1])) rfl dX3_append_29 ?_
  refine lv_aload_n hx hb dX3_append_32 rfl (lv_at hl 0 rfl) ?_
  refine x_get (C := RX3) (T := TX3) (N := 5) (ci := 3) hx hb hts iu3 hown hK hH (id := [3]) (by first | trivial | (simp only [xD]; omega) | (simp [xD]; done) | (simp [xD]; omega)) rfl rfl (by decide) 4 (by decide) (hts _ tw47) (fun _ h9 => h9) rfl (v := .int (nI jn)) (congrArg Value.int (by first | exact hz | (simp only [*]; simp [up, hz]; done))) dX3_append_33 ?_
  refine lv_iload_n hx hb dX3_append_36 rfl (lv_at hl 2 rfl) ?_
  obtain ⟨I2_, hI2_⟩ : ∃ z, z = up I1_ [4, 1] jn b := ⟨_, rfl⟩
  refine x_iast hx hb hK hH hS (id := [4, 1]) (by first | trivial | (simp only [xD]; omega) | (simp [xD]; done) | (simp [xD]; omega)) (L := 512) rfl jn rfl (by omega) (by decide) hI2_.symm dX3_append_37 (fun H locs hH hS => ?_)
  refine lv_aload_n hx hb dX3_append_38 rfl (lv_at hl 0 rfl) ?_
  refine x_get (C := RX3) (T := TX3) (N := 5) (ci := 3) hx hb hts iu3 hown hK hH (id := [3]) (by first | trivial | (simp only [xD]; omega) | (simp [xD]; done) | (simp [xD]; omega)) rfl rfl (by decide) 2 (by decide) (hts _ tw43) (fun _ h9 => h9) rfl (v := .ref (ga g [4, 2])) rfl dX3_append_39 ?_
  refine lv_aload_n hx hb dX3_append_42 rfl (lv_at hl 0 rfl) ?_
  refine x_get (C := RX3) (T := TX3) (N := 5) (ci := 3) hx hb hts iu3 hown hK hH (id := [3]) (by first | trivial | (simp only [xD]; omega) | (simp [xD]; done) | (simp [xD]; omega)) rfl rfl (by decide) 4 (by decide) (hts _ tw47) (fun _ h9 => h9) rfl (v := .int (nI jn)) (congrArg Value.int (by first | exact hz | (simp only [*]; simp [up, hz]; done))) dX3_append_43 ?_
  refine lv_iload_n hx hb dX3_append_46 rfl (lv_at hl 3 rfl) ?_
  obtain ⟨I3_, hI3_⟩ : ∃ z, z = up I2_ [4, 2] jn x := ⟨_, rfl⟩
  refine x_iast hx hb hK hH hS (id := [4, 2]) (by first | trivial | (simp only [xD]; omega) | (simp [xD]; done) | (simp [xD]; omega)) (L := 512) rfl jn rfl (by omega) (by decide) hI3_.symm dX3_append_47 (fun H locs hH hS => ?_)
  refine lv_aload_n hx hb dX3_append_48 rfl (lv_at hl 0 rfl) ?_
  refine x_get (C := RX3) (T := TX3) (N := 5) (ci := 3) hx hb hts iu3 hown hK hH (id := [3]) (by first | trivial | (simp only [xD]; omega) | (simp [xD]; done) | (simp [xD]; omega)) rfl rfl (by decide) 3 (by decide) (hts _ tw45) (fun _ h9 => h9) rfl (v := .ref (ga g [4, 3])) rfl dX3_append_49 ?_
  refine lv_aload_n hx hb dX3_append_52 rfl (lv_at hl 0 rfl) ?_
  refine x_get (C := RX3) (T := TX3) (N := 5) (ci := 3) hx hb hts iu3 hown hK hH (id := [3]) (by first | trivial | (simp only [xD]; omega) | (simp [xD]; done) | (simp [xD]; omega)) rfl rfl (by decide) 4 (by decide) (hts _ tw47) (fun _ h9 => h9) rfl (v := .int (nI jn)) (congrArg Value.int (by first | exact hz | (simp only [*]; simp [up, hz]; done))) dX3_append_53 ?_
  refine lv_iload hx hb dX3_append_56 (lv_at hl 4 rfl) ?_
  obtain ⟨I4_, hI4_⟩ : ∃ z, z = up I3_ [4, 3] jn y := ⟨_, rfl⟩
  refine x_iast hx hb hK hH hS (id := [4, 3]) (by first | trivial | (simp only [xD]; omega) | (simp [xD]; done) | (simp [xD]; omega)) (L := 512) rfl jn rfl (by omega) (by decide) hI4_.symm dX3_append_58 (fun H locs hH hS => ?_)
  refine lv_aload_n hx hb dX3_append_59 rfl (lv_at hl 0 rfl) ?_
  refine lv_dup hx hb dX3_append_60 rfl ?_
  refine x_get (C := RX3) (T := TX3) (N := 5) (ci := 3) hx hb hts iu3 hown hK hH (id := [3]) (by first | trivial | (simp only [xD]; omega) | (simp [xD]; done) | (simp [xD]; omega)) rfl rfl (by decide) 4 (by decide) (hts _ tw47) (fun _ h9 => h9) rfl (v := .int (nI jn)) (congrArg Value.int (by first | exact hz | (simp only [*]; simp [up, hz]; done))) dX3_append_61 ?_
  refine lv_iconst (v := 1) hx hb dX3_append_64 (by decide) ?_
  refine lv_iadd hx hb dX3_append_65 ?_
  rw [show ((nI jn) + 1) = (nI (jn + 1)) from (nI_1 jn)]
  obtain ⟨I5_, hI5_⟩ : ∃ z, z = up I4_ [3] 4 (nI (jn + 1)) := ⟨_, rfl⟩
  refine x_put (C := RX3) (T := TX3) (N := 5) (ci := 3) hx hb hts iu3 tyX3 tyX3_ok nmX3 hown hK hH hS (id := [3]) (by first | trivial | (simp only [xD]; omega) | (simp [xD]; done) | (simp [xD]; omega)) rfl rfl (by decide) 4 (by decide) (hts _ tw47) (fun _ h9 => h9) (Or.inl rfl) (ty := .int) (v := .int (nI (jn + 1))) (by decide +kernel) rfl rfl (I' := I5_) (F' := (xFh h)) (fun i hi => by rw [hI5_]; exact up_id hi) (fun _ _ => rfl) (fun j9 => by rw [hI5_, up_row]; exact xv_upd (ci := 3) (k := 4) rfl j9) dX3_append_66 (fun H locs hH hS => ?_)
  exact x_vret hx hb hr hlocks hS dX3_append_69 (by rw [hI5_, hI4_, hI3_, hI2_, hI1_] at hH; exact hH)

def sTail (P : Nat → Nat → Int32) (C : Nat → Nat → Nat → Nat → Int32) (cn : Nat → Nat → Nat) (n : Nat) (X : xX) : xX := up2 (sRun P C cn n (up2 X 0 10 (X 0 10 + 1))) 0 8 (-1)
abbrev sTl (h : xS) (I : xI) (p : Nat) (X : xX) : xX := sTail (vP I p) (vC I p) (sCn h p) (sSz h p) X
theorem xCh.new {X : xX} (h : xCh X) : xCh (sNew X) := by
  unfold sNew
  refine xCh.off (xCh.off (xCh.off (xCh.off ?_ (by decide) _ _) (by decide) _ _) (by decide) _ _) (by decide) _ _
  intro k
  unfold sNw2
  rw [if_neg (fun z => absurd z.1 (by decide))]
  split
  · rfl
  · rw [if_neg (fun z => by rcases z.1 with q | q <;> exact absurd q (by decide))]; exact h k
theorem xCh.rnd {P : Nat → Nat → Int32} {C : Nat → Nat → Nat → Nat → Int32} {cn : Nat → Nat → Nat} {n : Nat} : ∀ (t r : Nat) {X : xX}, xCh X → xCh (sRnd P C cn n t r X)
  | 0, _, _, h => h
  | t + 1, r, X, h => by
    show xCh (if (sSwp P C cn n n X).1 = true then sRnd P C cn n t (r + 1) (up2 (sSwp P C cn n n X).2 0 9 (nI (r + 1))) else (sSwp P C cn n n X).2)
    split
    · exact xCh.rnd t (r + 1) ((xCh.swp h n).off (by decide) _ _)
    · exact xCh.swp h n
theorem xCh.tail {P : Nat → Nat → Int32} {C : Nat → Nat → Nat → Nat → Int32} {cn : Nat → Nat → Nat} {n : Nat} {X : xX} (h : xCh X) : xCh (sTail P C cn n X) :=
  xCh.off (xCh.rnd 20 0 ((h.off (by decide) _ _).off (by decide) _ _)) (by decide) _ _
theorem xCh.old {P : Nat → Nat → Int32} {n : Nat} {X : xX} (h : xCh X) : xCh (sOld P n X) := by
  unfold sOld
  split
  · intro k; rw [sOldT_st]; exact h k
  · exact h.off (by decide) _ _
set_option maxHeartbeats 1000000 in
set_option maxRecDepth 100000 in
theorem c_X6_letHappen_0 (l : Launch) (g : xG) (h : xS) (I : xI) (n c : Nat) (X : xX) (hc : c < sNc h ∨ c = 4) (q : Nat) (y : Int32) (hq : q < sNp h) (hWq : xWp h I q) (h3 : sNp h ≤ 3) (hz : I [0] 1 = nI (sNp h)) (hch : xCh X) : xM l yX6_letHappen (xws yX6_letHappen cX6_letHappen 5 none) 5 105 g [.ref (ga g [0]), .ref (ga g [11, c, 0]), .int 0, .int (nI q), .int y] (xR g (xD h) (sX I c X) (xFh h) n) none (xR g (xD h) (sX I c (sTl h I q (sNew X))) (xFh (hPl h c q)) n) 0 0 := by
  refine xM.of (by decide) (Nat.le_of_ble_eq_true rfl) ?_
  intro P_ e_ s m_ bl_ mt_ cd_ ls hx hb hr hown hlocks hml hnm hE hK hts hH hS hl
  have hl : lv_has ls 5 [(0, .ref (ga g [0])), (1, .ref (ga g [11, c, 0])), (2, .int 0), (3, .int (nI q)), (4, .int y)] := hl
  refine lv_aload_n hx hb dX6_letHappen_0 rfl (lv_at hl 1 rfl) ?_
  refine lv_ifnonnull (tgt := 5) hx hb dX6_letHappen_1 (by decide) ?_
  refine lv_iload_n hx hb dX6_letHappen_5 rfl (lv_at hl 2 rfl) ?_
  refine lv_tableIn (tgt := 48) hx hb dX6_letHappen_6 (by decide) (by decide) rfl (by decide) ?_
  refine lv_aload_n hx hb dX6_letHappen_48 rfl (lv_at hl 1 rfl) ?_
  refine lv_aload_n hx hb dX6_letHappen_49 rfl (lv_at hl 0 rfl) ?_
  refine lv_iload_n hx hb dX6_letHappen_50 rfl (lv_at hl 3 rfl) ?_
  refine x_V1 hx hb hml hown hE hS hl.1 cyX6_planAt tw251 (c_X6_planAt l g h (sX I c X) n q hq h3 hz) ⟨Nat.le_of_ble_eq_true rfl, Nat.le_of_ble_eq_true rfl⟩ ⟨Nat.le_of_ble_eq_true rfl, Nat.le_of_ble_eq_true rfl⟩ (x_recv hK hH (id := [0]) (by first | trivial | (simp only [xD]; omega) | (simp [xD]; done) | (simp [xD]; omega)) (ci := 6) rfl (by decide) rfl) hH rfl rfl (Nat.le_of_ble_eq_true rfl) dX6_letHappen_51 (fun H locs hH hS => ?_)
  refine x_V0 hx hb hml hown hE hS hl.1 cyX0_beginAnew tw496 (c_X0_beginAnew l g h I n c X hc q) ⟨Nat.le_of_ble_eq_true rfl, Nat.le_of_ble_eq_true rfl⟩ ⟨Nat.le_of_ble_eq_true rfl, Nat.le_of_ble_eq_true rfl⟩ (x_recv hK hH (id := [11, c, 0]) (by first | trivial | (simp only [xD]; omega) | (simp [xD]; done) | (simp [xD]; omega)) (ci := 0) rfl (by decide) rfl) hH rfl rfl (Nat.le_of_ble_eq_true rfl) dX6_letHappen_54 (fun H locs hH hS => ?_)
  refine lv_goto (tgt := 120) hx hb dX6_letHappen_57 (by decide) ?_
  refine lv_aload_n hx hb dX6_letHappen_120 rfl (lv_at hl 1 rfl) ?_
  refine lv_dup hx hb dX6_letHappen_121 rfl ?_
  refine x_get (C := RX0) (T := TX0) (N := 11) (ci := 0) hx hb hts iu0 hown hK hH (id := [11, c, 0]) (by first | trivial | (simp only [xD]; omega) | (simp [xD]; done) | (simp [xD]; omega)) rfl rfl (by decide) 10 (by decide) (hts _ tw106) (fun _ h9 => h9) (sX_at _ _ _ _) (v := .int ((sNew X) 0 10)) rfl dX6_letHappen_122 ?_
  refine lv_iconst (v := 1) hx hb dX6_letHappen_125 (by decide) ?_
  refine lv_iadd hx hb dX6_letHappen_126 ?_
  obtain ⟨X1_, hX1_⟩ : ∃ z, z = up2 (sNew X) 0 10 (((sNew X) 0 10) + 1) := ⟨_, rfl⟩
  refine x_put (C := RX0) (T := TX0) (N := 11) (ci := 0) hx hb hts iu0 tyX0 tyX0_ok nmX0 hown hK hH hS (id := [11, c, 0]) (by first | trivial | (simp only [xD]; omega) | (simp [xD]; done) | (simp [xD]; omega)) rfl rfl (by decide) 10 (by decide) (hts _ tw106) (fun _ h9 => h9) (Or.inl rfl) (ty := .int) (v := .int (((sNew X) 0 10) + 1)) (by decide +kernel) rfl rfl (I' := (sX I c X1_)) (F' := (xFh (hPl h c q))) (fun i hi => by rw [show (sX I c X1_) = _ from Eq.symm ((sX_up _ _ _ _ _ _).trans (congrArg (sX I c) hX1_.symm))]; exact up_id hi) (fun _ _ => rfl) (fun j9 => by rw [show (sX I c X1_) = _ from Eq.symm ((sX_up _ _ _ _ _ _).trans (congrArg (sX I c) hX1_.symm)), up_row]; exact xv_upd rfl j9) dX6_letHappen_127 (fun H locs hH hS => ?_)
  refine lv_aload_n hx hb dX6_letHappen_130 rfl (lv_at hl 1 rfl) ?_
  refine x_V0 hx hb hml hown hE hS hl.1 cyX0_runRounds tw531 (c_X0_runRounds l g (hPl h c q) I n c X1_ hc q (if_pos rfl) hq hWq (by rw [hX1_]; exact (xCh.new hch).off (by decide) _ _)) ⟨Nat.le_of_ble_eq_true rfl, Nat.le_of_ble_eq_true rfl⟩ ⟨Nat.le_of_ble_eq_true rfl, Nat.le_of_ble_eq_true rfl⟩ (x_recv hK hH (id := [11, c, 0]) (by first | trivial | (simp only [xD]; omega) | (simp [xD]; done) | (simp [xD]; omega)) (ci := 0) rfl (by decide) rfl) hH rfl rfl (Nat.le_of_ble_eq_true rfl) dX6_letHappen_131 (fun H locs hH hS => ?_)
  refine lv_aload_n hx hb dX6_letHappen_134 rfl (lv_at hl 1 rfl) ?_
  refine lv_iconst (v := (-1)) hx hb dX6_letHappen_135 (by decide) ?_
  obtain ⟨X2_, hX2_⟩ : ∃ z, z = up2 (sRun (vP I q) (vC I q) (sCn h q) (sSz h q) X1_) 0 8 (-1) := ⟨_, rfl⟩
  refine x_put (C := RX0) (T := TX0) (N := 11) (ci := 0) hx hb hts iu0 tyX0 tyX0_ok nmX0 hown hK hH hS (id := [11, c, 0]) (by first | trivial | (simp only [xD]; omega) | (simp [xD]; done) | (simp [xD]; omega)) rfl rfl (by decide) 8 (by decide) (hts _ tw102) (fun _ h9 => h9) (Or.inl rfl) (ty := .int) (v := .int (-1)) (by decide +kernel) rfl rfl (I' := (sX I c X2_)) (F' := (xFh (hPl h c q))) (fun i hi => by rw [show (sX I c X2_) = _ from Eq.symm ((sX_up _ _ _ _ _ _).trans (congrArg (sX I c) hX2_.symm))]; exact up_id hi) (fun _ _ => rfl) (fun j9 => by rw [show (sX I c X2_) = _ from Eq.symm ((sX_up _ _ _ _ _ _).trans (congrArg (sX I c) hX2_.symm)), up_row]; exact xv_upd rfl j9) dX6_letHappen_136 (fun H locs hH hS => ?_)
  exact x_vret hx hb hr hlocks hS dX6_letHappen_139 (by rw [hX2_, hX1_] at hH; exact hH)

set_option maxHeartbeats 1000000 in
set_option maxRecDepth 100000 in
theorem c_X6_letHappen_1 (l : Launch) (g : xG) (h : xS) (I : xI) (n c : Nat) (X : xX) (hc : c < sNc h ∨ c = 4) (p : Nat) (hp : sPl h c = p) (hpp : p < sNp h) (hW : xWp h I p) (y : Int32) (hch : xCh X) (k : Nat) (hk : k < 4) : xM l yX6_letHappen (xws yX6_letHappen cX6_letHappen 5 none) 5 105 g [.ref (ga g [0]), .ref (ga g [11, c, 0]), .int 1, .int (nI k), .int y] (xR g (xD h) (sX I c X) (xFh h) n) none (xR g (xD h) (sX I c (sTl h I p (up2 X 1 k y))) (xFh h) n) 0 0 := by
  refine xM.of (by decide) (Nat.le_of_ble_eq_true rfl) ?_
  intro P_ e_ s m_ bl_ mt_ cd_ ls hx hb hr hown hlocks hml hnm hE hK hts hH hS hl
  have hl : lv_has ls 5 [(0, .ref (ga g [0])), (1, .ref (ga g [11, c, 0])), (2, .int 1), (3, .int (nI k)), (4, .int y)] := hl
  have h8 := hW.1
  refine lv_aload_n hx hb dX6_letHappen_0 rfl (lv_at hl 1 rfl) ?_
  refine lv_ifnonnull (tgt := 5) hx hb dX6_letHappen_1 (by decide) ?_
  refine lv_iload_n hx hb dX6_letHappen_5 rfl (lv_at hl 2 rfl) ?_
  refine lv_tableIn (tgt := 60) hx hb dX6_letHappen_6 (by decide) (by decide) rfl (by decide) ?_
  refine lv_aload_n hx hb dX6_letHappen_60 rfl (lv_at hl 1 rfl) ?_
  refine lv_iload_n hx hb dX6_letHappen_61 rfl (lv_at hl 3 rfl) ?_
  refine lv_iload hx hb dX6_letHappen_62 (lv_at hl 4 rfl) ?_
  refine x_V0 hx hb hml hown hE hS hl.1 cyX0_putValue tw504 (c_X0_putValue l g h I n c X hc k y hk) ⟨Nat.le_of_ble_eq_true rfl, Nat.le_of_ble_eq_true rfl⟩ ⟨Nat.le_of_ble_eq_true rfl, Nat.le_of_ble_eq_true rfl⟩ (x_recv hK hH (id := [11, c, 0]) (by first | trivial | (simp only [xD]; omega) | (simp [xD]; done) | (simp [xD]; omega)) (ci := 0) rfl (by decide) rfl) hH rfl rfl (Nat.le_of_ble_eq_true rfl) dX6_letHappen_64 (fun H locs hH hS => ?_)
  refine lv_goto (tgt := 120) hx hb dX6_letHappen_67 (by decide) ?_
  refine lv_aload_n hx hb dX6_letHappen_120 rfl (lv_at hl 1 rfl) ?_
  refine lv_dup hx hb dX6_letHappen_121 rfl ?_
  refine x_get (C := RX0) (T := TX0) (N := 11) (ci := 0) hx hb hts iu0 hown hK hH (id := [11, c, 0]) (by first | trivial | (simp only [xD]; omega) | (simp [xD]; done) | (simp [xD]; omega)) rfl rfl (by decide) 10 (by decide) (hts _ tw106) (fun _ h9 => h9) (sX_at _ _ _ _) (v := .int ((up2 X 1 k y) 0 10)) rfl dX6_letHappen_122 ?_
  refine lv_iconst (v := 1) hx hb dX6_letHappen_125 (by decide) ?_
  refine lv_iadd hx hb dX6_letHappen_126 ?_
  obtain ⟨X1_, hX1_⟩ : ∃ z, z = up2 (up2 X 1 k y) 0 10 (((up2 X 1 k y) 0 10) + 1) := ⟨_, rfl⟩
  refine x_put (C := RX0) (T := TX0) (N := 11) (ci := 0) hx hb hts iu0 tyX0 tyX0_ok nmX0 hown hK hH hS (id := [11, c, 0]) (by first | trivial | (simp only [xD]; omega) | (simp [xD]; done) | (simp [xD]; omega)) rfl rfl (by decide) 10 (by decide) (hts _ tw106) (fun _ h9 => h9) (Or.inl rfl) (ty := .int) (v := .int (((up2 X 1 k y) 0 10) + 1)) (by decide +kernel) rfl rfl (I' := (sX I c X1_)) (F' := (xFh h)) (fun i hi => by rw [show (sX I c X1_) = _ from Eq.symm ((sX_up _ _ _ _ _ _).trans (congrArg (sX I c) hX1_.symm))]; exact up_id hi) (fun _ _ => rfl) (fun j9 => by rw [show (sX I c X1_) = _ from Eq.symm ((sX_up _ _ _ _ _ _).trans (congrArg (sX I c) hX1_.symm)), up_row]; exact xv_upd rfl j9) dX6_letHappen_127 (fun H locs hH hS => ?_)
  refine lv_aload_n hx hb dX6_letHappen_130 rfl (lv_at hl 1 rfl) ?_
  refine x_V0 hx hb hml hown hE hS hl.1 cyX0_runRounds tw531 (c_X0_runRounds l g h I n c X1_ hc p hp hpp hW (by rw [hX1_]; exact (hch.off (by decide) _ _).off (by decide) _ _)) ⟨Nat.le_of_ble_eq_true rfl, Nat.le_of_ble_eq_true rfl⟩ ⟨Nat.le_of_ble_eq_true rfl, Nat.le_of_ble_eq_true rfl⟩ (x_recv hK hH (id := [11, c, 0]) (by first | trivial | (simp only [xD]; omega) | (simp [xD]; done) | (simp [xD]; omega)) (ci := 0) rfl (by decide) rfl) hH rfl rfl (Nat.le_of_ble_eq_true rfl) dX6_letHappen_131 (fun H locs hH hS => ?_)
  refine lv_aload_n hx hb dX6_letHappen_134 rfl (lv_at hl 1 rfl) ?_
  refine lv_iconst (v := (-1)) hx hb dX6_letHappen_135 (by decide) ?_
  obtain ⟨X2_, hX2_⟩ : ∃ z, z = up2 (sRun (vP I p) (vC I p) (sCn h p) (sSz h p) X1_) 0 8 (-1) := ⟨_, rfl⟩
  refine x_put (C := RX0) (T := TX0) (N := 11) (ci := 0) hx hb hts iu0 tyX0 tyX0_ok nmX0 hown hK hH hS (id := [11, c, 0]) (by first | trivial | (simp only [xD]; omega) | (simp [xD]; done) | (simp [xD]; omega)) rfl rfl (by decide) 8 (by decide) (hts _ tw102) (fun _ h9 => h9) (Or.inl rfl) (ty := .int) (v := .int (-1)) (by decide +kernel) rfl rfl (I' := (sX I c X2_)) (F' := (xFh h)) (fun i hi => by rw [show (sX I c X2_) = _ from Eq.symm ((sX_up _ _ _ _ _ _).trans (congrArg (sX I c) hX2_.symm))]; exact up_id hi) (fun _ _ => rfl) (fun j9 => by rw [show (sX I c X2_) = _ from Eq.symm ((sX_up _ _ _ _ _ _).trans (congrArg (sX I c) hX2_.symm)), up_row]; exact xv_upd rfl j9) dX6_letHappen_136 (fun H locs hH hS => ?_)
  exact x_vret hx hb hr hlocks hS dX6_letHappen_139 (by rw [hX2_, hX1_] at hH; exact hH)

set_option maxHeartbeats 1000000 in
set_option maxRecDepth 100000 in
theorem c_X6_letHappen_2 (l : Launch) (g : xG) (h : xS) (I : xI) (n c : Nat) (X : xX) (hc : c < sNc h ∨ c = 4) (p : Nat) (hp : sPl h c = p) (hpp : p < sNp h) (hW : xWp h I p) (y : Int32) (hch : xCh X) (x : Int32) : xM l yX6_letHappen (xws yX6_letHappen cX6_letHappen 5 none) 5 105 g [.ref (ga g [0]), .ref (ga g [11, c, 0]), .int 2, .int x, .int y] (xR g (xD h) (sX I c X) (xFh h) n) none (xR g (xD h) (sX I c (sTl h I p (up2 X 0 8 x))) (xFh h) n) 0 0 := by
  refine xM.of (by decide) (Nat.le_of_ble_eq_true rfl) ?_
  intro P_ e_ s m_ bl_ mt_ cd_ ls hx hb hr hown hlocks hml hnm hE hK hts hH hS hl
  have hl : lv_has ls 5 [(0, .ref (ga g [0])), (1, .ref (ga g [11, c, 0])), (2, .int 2), (3, .int x), (4, .int y)] := hl
  have h8 := hW.1
  refine lv_aload_n hx hb dX6_letHappen_0 rfl (lv_at hl 1 rfl) ?_
  refine lv_ifnonnull (tgt := 5) hx hb dX6_letHappen_1 (by decide) ?_
  refine lv_iload_n hx hb dX6_letHappen_5 rfl (lv_at hl 2 rfl) ?_
  refine lv_tableIn (tgt := 70) hx hb dX6_letHappen_6 (by decide) (by decide) rfl (by decide) ?_
  refine lv_aload_n hx hb dX6_letHappen_70 rfl (lv_at hl 1 rfl) ?_
  refine lv_iload_n hx hb dX6_letHappen_71 rfl (lv_at hl 3 rfl) ?_
  obtain ⟨X1_, hX1_⟩ : ∃ z, z = up2 X 0 8 x := ⟨_, rfl⟩
  refine x_put (C := RX0) (T := TX0) (N := 11) (ci := 0) hx hb hts iu0 tyX0 tyX0_ok nmX0 hown hK hH hS (id := [11, c, 0]) (by first | trivial | (simp only [xD]; omega) | (simp [xD]; done) | (simp [xD]; omega)) rfl rfl (by decide) 8 (by decide) (hts _ tw102) (fun _ h9 => h9) (Or.inl rfl) (ty := .int) (v := .int x) (by decide +kernel) rfl rfl (I' := (sX I c X1_)) (F' := (xFh h)) (fun i hi => by rw [show (sX I c X1_) = _ from Eq.symm ((sX_up _ _ _ _ _ _).trans (congrArg (sX I c) hX1_.symm))]; exact up_id hi) (fun _ _ => rfl) (fun j9 => by rw [show (sX I c X1_) = _ from Eq.symm ((sX_up _ _ _ _ _ _).trans (congrArg (sX I c) hX1_.symm)), up_row]; exact xv_upd rfl j9) dX6_letHappen_72 (fun H locs hH hS => ?_)
  refine lv_goto (tgt := 120) hx hb dX6_letHappen_75 (by decide) ?_
  refine lv_aload_n hx hb dX6_letHappen_120 rfl (lv_at hl 1 rfl) ?_
  refine lv_dup hx hb dX6_letHappen_121 rfl ?_
  refine x_get (C := RX0) (T := TX0) (N := 11) (ci := 0) hx hb hts iu0 hown hK hH (id := [11, c, 0]) (by first | trivial | (simp only [xD]; omega) | (simp [xD]; done) | (simp [xD]; omega)) rfl rfl (by decide) 10 (by decide) (hts _ tw106) (fun _ h9 => h9) (sX_at _ _ _ _) (v := .int (X1_ 0 10)) rfl dX6_letHappen_122 ?_
  refine lv_iconst (v := 1) hx hb dX6_letHappen_125 (by decide) ?_
  refine lv_iadd hx hb dX6_letHappen_126 ?_
  obtain ⟨X2_, hX2_⟩ : ∃ z, z = up2 X1_ 0 10 ((X1_ 0 10) + 1) := ⟨_, rfl⟩
  refine x_put (C := RX0) (T := TX0) (N := 11) (ci := 0) hx hb hts iu0 tyX0 tyX0_ok nmX0 hown hK hH hS (id := [11, c, 0]) (by first | trivial | (simp only [xD]; omega) | (simp [xD]; done) | (simp [xD]; omega)) rfl rfl (by decide) 10 (by decide) (hts _ tw106) (fun _ h9 => h9) (Or.inl rfl) (ty := .int) (v := .int ((X1_ 0 10) + 1)) (by decide +kernel) rfl rfl (I' := (sX I c X2_)) (F' := (xFh h)) (fun i hi => by rw [show (sX I c X2_) = _ from Eq.symm ((sX_up _ _ _ _ _ _).trans (congrArg (sX I c) hX2_.symm))]; exact up_id hi) (fun _ _ => rfl) (fun j9 => by rw [show (sX I c X2_) = _ from Eq.symm ((sX_up _ _ _ _ _ _).trans (congrArg (sX I c) hX2_.symm)), up_row]; exact xv_upd rfl j9) dX6_letHappen_127 (fun H locs hH hS => ?_)
  refine lv_aload_n hx hb dX6_letHappen_130 rfl (lv_at hl 1 rfl) ?_
  refine x_V0 hx hb hml hown hE hS hl.1 cyX0_runRounds tw531 (c_X0_runRounds l g h I n c X2_ hc p hp hpp hW (by rw [hX2_, hX1_]; exact (hch.off (by decide) _ _).off (by decide) _ _)) ⟨Nat.le_of_ble_eq_true rfl, Nat.le_of_ble_eq_true rfl⟩ ⟨Nat.le_of_ble_eq_true rfl, Nat.le_of_ble_eq_true rfl⟩ (x_recv hK hH (id := [11, c, 0]) (by first | trivial | (simp only [xD]; omega) | (simp [xD]; done) | (simp [xD]; omega)) (ci := 0) rfl (by decide) rfl) hH rfl rfl (Nat.le_of_ble_eq_true rfl) dX6_letHappen_131 (fun H locs hH hS => ?_)
  refine lv_aload_n hx hb dX6_letHappen_134 rfl (lv_at hl 1 rfl) ?_
  refine lv_iconst (v := (-1)) hx hb dX6_letHappen_135 (by decide) ?_
  obtain ⟨X3_, hX3_⟩ : ∃ z, z = up2 (sRun (vP I p) (vC I p) (sCn h p) (sSz h p) X2_) 0 8 (-1) := ⟨_, rfl⟩
  refine x_put (C := RX0) (T := TX0) (N := 11) (ci := 0) hx hb hts iu0 tyX0 tyX0_ok nmX0 hown hK hH hS (id := [11, c, 0]) (by first | trivial | (simp only [xD]; omega) | (simp [xD]; done) | (simp [xD]; omega)) rfl rfl (by decide) 8 (by decide) (hts _ tw102) (fun _ h9 => h9) (Or.inl rfl) (ty := .int) (v := .int (-1)) (by decide +kernel) rfl rfl (I' := (sX I c X3_)) (F' := (xFh h)) (fun i hi => by rw [show (sX I c X3_) = _ from Eq.symm ((sX_up _ _ _ _ _ _).trans (congrArg (sX I c) hX3_.symm))]; exact up_id hi) (fun _ _ => rfl) (fun j9 => by rw [show (sX I c X3_) = _ from Eq.symm ((sX_up _ _ _ _ _ _).trans (congrArg (sX I c) hX3_.symm)), up_row]; exact xv_upd rfl j9) dX6_letHappen_136 (fun H locs hH hS => ?_)
  exact x_vret hx hb hr hlocks hS dX6_letHappen_139 (by rw [hX3_, hX2_, hX1_] at hH; exact hH)

set_option maxHeartbeats 1000000 in
set_option maxRecDepth 100000 in
theorem c_X6_letHappen_3 (l : Launch) (g : xG) (h : xS) (I : xI) (n c : Nat) (X : xX) (hc : c < sNc h ∨ c = 4) (p : Nat) (hp : sPl h c = p) (hpp : p < sNp h) (hW : xWp h I p) (y : Int32) (hch : xCh X) (j : Nat) (hj : j < sSz h p) : xM l yX6_letHappen (xws yX6_letHappen cX6_letHappen 5 none) 5 105 g [.ref (ga g [0]), .ref (ga g [11, c, 0]), .int 3, .int (nI j), .int y] (xR g (xD h) (sX I c X) (xFh h) n) none (xR g (xD h) (sX I c (sTl h I p (sEnd (vP I p) (sSz h p) X j 99))) (xFh h) n) 0 0 := by
  refine xM.of (by decide) (Nat.le_of_ble_eq_true rfl) ?_
  intro P_ e_ s m_ bl_ mt_ cd_ ls hx hb hr hown hlocks hml hnm hE hK hts hH hS hl
  have hl : lv_has ls 5 [(0, .ref (ga g [0])), (1, .ref (ga g [11, c, 0])), (2, .int 3), (3, .int (nI j)), (4, .int y)] := hl
  have h8 := hW.1
  refine lv_aload_n hx hb dX6_letHappen_0 rfl (lv_at hl 1 rfl) ?_
  refine lv_ifnonnull (tgt := 5) hx hb dX6_letHappen_1 (by decide) ?_
  refine lv_iload_n hx hb dX6_letHappen_5 rfl (lv_at hl 2 rfl) ?_
  refine lv_tableIn (tgt := 78) hx hb dX6_letHappen_6 (by decide) (by decide) rfl (by decide) ?_
  refine lv_aload_n hx hb dX6_letHappen_78 rfl (lv_at hl 1 rfl) ?_
  refine lv_iload_n hx hb dX6_letHappen_79 rfl (lv_at hl 3 rfl) ?_
  refine lv_bipush (v := 99) hx hb dX6_letHappen_80 (by decide) ?_
  refine x_V0 hx hb hml hown hE hS hl.1 cyX0_finish tw509 (c_X0_finish l g h I n c X hc p hp hpp hW j (by omega) 99 (by rfl) hch) ⟨Nat.le_of_ble_eq_true rfl, Nat.le_of_ble_eq_true rfl⟩ ⟨Nat.le_of_ble_eq_true rfl, Nat.le_of_ble_eq_true rfl⟩ (x_recv hK hH (id := [11, c, 0]) (by first | trivial | (simp only [xD]; omega) | (simp [xD]; done) | (simp [xD]; omega)) (ci := 0) rfl (by decide) rfl) hH rfl rfl (Nat.le_of_ble_eq_true rfl) dX6_letHappen_82 (fun H locs hH hS => ?_)
  refine lv_goto (tgt := 120) hx hb dX6_letHappen_85 (by decide) ?_
  refine lv_aload_n hx hb dX6_letHappen_120 rfl (lv_at hl 1 rfl) ?_
  refine lv_dup hx hb dX6_letHappen_121 rfl ?_
  refine x_get (C := RX0) (T := TX0) (N := 11) (ci := 0) hx hb hts iu0 hown hK hH (id := [11, c, 0]) (by first | trivial | (simp only [xD]; omega) | (simp [xD]; done) | (simp [xD]; omega)) rfl rfl (by decide) 10 (by decide) (hts _ tw106) (fun _ h9 => h9) (sX_at _ _ _ _) (v := .int ((sEnd (vP I p) (sSz h p) X j 99) 0 10)) rfl dX6_letHappen_122 ?_
  refine lv_iconst (v := 1) hx hb dX6_letHappen_125 (by decide) ?_
  refine lv_iadd hx hb dX6_letHappen_126 ?_
  obtain ⟨X1_, hX1_⟩ : ∃ z, z = up2 (sEnd (vP I p) (sSz h p) X j 99) 0 10 (((sEnd (vP I p) (sSz h p) X j 99) 0 10) + 1) := ⟨_, rfl⟩
  refine x_put (C := RX0) (T := TX0) (N := 11) (ci := 0) hx hb hts iu0 tyX0 tyX0_ok nmX0 hown hK hH hS (id := [11, c, 0]) (by first | trivial | (simp only [xD]; omega) | (simp [xD]; done) | (simp [xD]; omega)) rfl rfl (by decide) 10 (by decide) (hts _ tw106) (fun _ h9 => h9) (Or.inl rfl) (ty := .int) (v := .int (((sEnd (vP I p) (sSz h p) X j 99) 0 10) + 1)) (by decide +kernel) rfl rfl (I' := (sX I c X1_)) (F' := (xFh h)) (fun i hi => by rw [show (sX I c X1_) = _ from Eq.symm ((sX_up _ _ _ _ _ _).trans (congrArg (sX I c) hX1_.symm))]; exact up_id hi) (fun _ _ => rfl) (fun j9 => by rw [show (sX I c X1_) = _ from Eq.symm ((sX_up _ _ _ _ _ _).trans (congrArg (sX I c) hX1_.symm)), up_row]; exact xv_upd rfl j9) dX6_letHappen_127 (fun H locs hH hS => ?_)
  refine lv_aload_n hx hb dX6_letHappen_130 rfl (lv_at hl 1 rfl) ?_
  refine x_V0 hx hb hml hown hE hS hl.1 cyX0_runRounds tw531 (c_X0_runRounds l g h I n c X1_ hc p hp hpp hW (by rw [hX1_]; exact (hch.fin j rfl).off (by decide) _ _)) ⟨Nat.le_of_ble_eq_true rfl, Nat.le_of_ble_eq_true rfl⟩ ⟨Nat.le_of_ble_eq_true rfl, Nat.le_of_ble_eq_true rfl⟩ (x_recv hK hH (id := [11, c, 0]) (by first | trivial | (simp only [xD]; omega) | (simp [xD]; done) | (simp [xD]; omega)) (ci := 0) rfl (by decide) rfl) hH rfl rfl (Nat.le_of_ble_eq_true rfl) dX6_letHappen_131 (fun H locs hH hS => ?_)
  refine lv_aload_n hx hb dX6_letHappen_134 rfl (lv_at hl 1 rfl) ?_
  refine lv_iconst (v := (-1)) hx hb dX6_letHappen_135 (by decide) ?_
  obtain ⟨X2_, hX2_⟩ : ∃ z, z = up2 (sRun (vP I p) (vC I p) (sCn h p) (sSz h p) X1_) 0 8 (-1) := ⟨_, rfl⟩
  refine x_put (C := RX0) (T := TX0) (N := 11) (ci := 0) hx hb hts iu0 tyX0 tyX0_ok nmX0 hown hK hH hS (id := [11, c, 0]) (by first | trivial | (simp only [xD]; omega) | (simp [xD]; done) | (simp [xD]; omega)) rfl rfl (by decide) 8 (by decide) (hts _ tw102) (fun _ h9 => h9) (Or.inl rfl) (ty := .int) (v := .int (-1)) (by decide +kernel) rfl rfl (I' := (sX I c X2_)) (F' := (xFh h)) (fun i hi => by rw [show (sX I c X2_) = _ from Eq.symm ((sX_up _ _ _ _ _ _).trans (congrArg (sX I c) hX2_.symm))]; exact up_id hi) (fun _ _ => rfl) (fun j9 => by rw [show (sX I c X2_) = _ from Eq.symm ((sX_up _ _ _ _ _ _).trans (congrArg (sX I c) hX2_.symm)), up_row]; exact xv_upd rfl j9) dX6_letHappen_136 (fun H locs hH hS => ?_)
  exact x_vret hx hb hr hlocks hS dX6_letHappen_139 (by rw [hX2_, hX1_] at hH; exact hH)

set_option maxHeartbeats 1000000 in
set_option maxRecDepth 100000 in
theorem c_X6_letHappen_4 (l : Launch) (g : xG) (h : xS) (I : xI) (n c : Nat) (X : xX) (hc : c < sNc h ∨ c = 4) (p : Nat) (hp : sPl h c = p) (hpp : p < sNp h) (hW : xWp h I p) (y : Int32) (hch : xCh X) (x : Int32) : xM l yX6_letHappen (xws yX6_letHappen cX6_letHappen 5 none) 5 105 g [.ref (ga g [0]), .ref (ga g [11, c, 0]), .int 4, .int x, .int y] (xR g (xD h) (sX I c X) (xFh h) n) none (xR g (xD h) (sX I c (sTl h I p (up2 X 0 7 1))) (xFh h) n) 0 0 := by
  refine xM.of (by decide) (Nat.le_of_ble_eq_true rfl) ?_
  intro P_ e_ s m_ bl_ mt_ cd_ ls hx hb hr hown hlocks hml hnm hE hK hts hH hS hl
  have hl : lv_has ls 5 [(0, .ref (ga g [0])), (1, .ref (ga g [11, c, 0])), (2, .int 4), (3, .int x), (4, .int y)] := hl
  have h8 := hW.1
  refine lv_aload_n hx hb dX6_letHappen_0 rfl (lv_at hl 1 rfl) ?_
  refine lv_ifnonnull (tgt := 5) hx hb dX6_letHappen_1 (by decide) ?_
  refine lv_iload_n hx hb dX6_letHappen_5 rfl (lv_at hl 2 rfl) ?_
  refine lv_tableIn (tgt := 88) hx hb dX6_letHappen_6 (by decide) (by decide) rfl (by decide) ?_
  refine lv_aload_n hx hb dX6_letHappen_88 rfl (lv_at hl 1 rfl) ?_
  refine lv_iconst (v := 1) hx hb dX6_letHappen_89 (by decide) ?_
  obtain ⟨X1_, hX1_⟩ : ∃ z, z = up2 X 0 7 1 := ⟨_, rfl⟩
  refine x_put (C := RX0) (T := TX0) (N := 11) (ci := 0) hx hb hts iu0 tyX0 tyX0_ok nmX0 hown hK hH hS (id := [11, c, 0]) (by first | trivial | (simp only [xD]; omega) | (simp [xD]; done) | (simp [xD]; omega)) rfl rfl (by decide) 7 (by decide) (hts _ tw100) (fun _ h9 => h9) (Or.inl rfl) (ty := .boolean) (v := .int 1) (by decide +kernel) rfl rfl (I' := (sX I c X1_)) (F' := (xFh h)) (fun i hi => by rw [show (sX I c X1_) = _ from Eq.symm ((sX_up _ _ _ _ _ _).trans (congrArg (sX I c) hX1_.symm))]; exact up_id hi) (fun _ _ => rfl) (fun j9 => by rw [show (sX I c X1_) = _ from Eq.symm ((sX_up _ _ _ _ _ _).trans (congrArg (sX I c) hX1_.symm)), up_row]; exact xv_upd rfl j9) dX6_letHappen_90 (fun H locs hH hS => ?_)
  refine lv_goto (tgt := 120) hx hb dX6_letHappen_93 (by decide) ?_
  refine lv_aload_n hx hb dX6_letHappen_120 rfl (lv_at hl 1 rfl) ?_
  refine lv_dup hx hb dX6_letHappen_121 rfl ?_
  refine x_get (C := RX0) (T := TX0) (N := 11) (ci := 0) hx hb hts iu0 hown hK hH (id := [11, c, 0]) (by first | trivial | (simp only [xD]; omega) | (simp [xD]; done) | (simp [xD]; omega)) rfl rfl (by decide) 10 (by decide) (hts _ tw106) (fun _ h9 => h9) (sX_at _ _ _ _) (v := .int (X1_ 0 10)) rfl dX6_letHappen_122 ?_
  refine lv_iconst (v := 1) hx hb dX6_letHappen_125 (by decide) ?_
  refine lv_iadd hx hb dX6_letHappen_126 ?_
  obtain ⟨X2_, hX2_⟩ : ∃ z, z = up2 X1_ 0 10 ((X1_ 0 10) + 1) := ⟨_, rfl⟩
  refine x_put (C := RX0) (T := TX0) (N := 11) (ci := 0) hx hb hts iu0 tyX0 tyX0_ok nmX0 hown hK hH hS (id := [11, c, 0]) (by first | trivial | (simp only [xD]; omega) | (simp [xD]; done) | (simp [xD]; omega)) rfl rfl (by decide) 10 (by decide) (hts _ tw106) (fun _ h9 => h9) (Or.inl rfl) (ty := .int) (v := .int ((X1_ 0 10) + 1)) (by decide +kernel) rfl rfl (I' := (sX I c X2_)) (F' := (xFh h)) (fun i hi => by rw [show (sX I c X2_) = _ from Eq.symm ((sX_up _ _ _ _ _ _).trans (congrArg (sX I c) hX2_.symm))]; exact up_id hi) (fun _ _ => rfl) (fun j9 => by rw [show (sX I c X2_) = _ from Eq.symm ((sX_up _ _ _ _ _ _).trans (congrArg (sX I c) hX2_.symm)), up_row]; exact xv_upd rfl j9) dX6_letHappen_127 (fun H locs hH hS => ?_)
  refine lv_aload_n hx hb dX6_letHappen_130 rfl (lv_at hl 1 rfl) ?_
  refine x_V0 hx hb hml hown hE hS hl.1 cyX0_runRounds tw531 (c_X0_runRounds l g h I n c X2_ hc p hp hpp hW (by rw [hX2_, hX1_]; exact (hch.off (by decide) _ _).off (by decide) _ _)) ⟨Nat.le_of_ble_eq_true rfl, Nat.le_of_ble_eq_true rfl⟩ ⟨Nat.le_of_ble_eq_true rfl, Nat.le_of_ble_eq_true rfl⟩ (x_recv hK hH (id := [11, c, 0]) (by first | trivial | (simp only [xD]; omega) | (simp [xD]; done) | (simp [xD]; omega)) (ci := 0) rfl (by decide) rfl) hH rfl rfl (Nat.le_of_ble_eq_true rfl) dX6_letHappen_131 (fun H locs hH hS => ?_)
  refine lv_aload_n hx hb dX6_letHappen_134 rfl (lv_at hl 1 rfl) ?_
  refine lv_iconst (v := (-1)) hx hb dX6_letHappen_135 (by decide) ?_
  obtain ⟨X3_, hX3_⟩ : ∃ z, z = up2 (sRun (vP I p) (vC I p) (sCn h p) (sSz h p) X2_) 0 8 (-1) := ⟨_, rfl⟩
  refine x_put (C := RX0) (T := TX0) (N := 11) (ci := 0) hx hb hts iu0 tyX0 tyX0_ok nmX0 hown hK hH hS (id := [11, c, 0]) (by first | trivial | (simp only [xD]; omega) | (simp [xD]; done) | (simp [xD]; omega)) rfl rfl (by decide) 8 (by decide) (hts _ tw102) (fun _ h9 => h9) (Or.inl rfl) (ty := .int) (v := .int (-1)) (by decide +kernel) rfl rfl (I' := (sX I c X3_)) (F' := (xFh h)) (fun i hi => by rw [show (sX I c X3_) = _ from Eq.symm ((sX_up _ _ _ _ _ _).trans (congrArg (sX I c) hX3_.symm))]; exact up_id hi) (fun _ _ => rfl) (fun j9 => by rw [show (sX I c X3_) = _ from Eq.symm ((sX_up _ _ _ _ _ _).trans (congrArg (sX I c) hX3_.symm)), up_row]; exact xv_upd rfl j9) dX6_letHappen_136 (fun H locs hH hS => ?_)
  exact x_vret hx hb hr hlocks hS dX6_letHappen_139 (by rw [hX3_, hX2_, hX1_] at hH; exact hH)

set_option maxHeartbeats 1000000 in
set_option maxRecDepth 100000 in
theorem c_X6_letHappen_5 (l : Launch) (g : xG) (h : xS) (I : xI) (n c : Nat) (X : xX) (hc : c < sNc h ∨ c = 4) (p : Nat) (hp : sPl h c = p) (hpp : p < sNp h) (hW : xWp h I p) (y : Int32) (hch : xCh X) (x : Int32) : xM l yX6_letHappen (xws yX6_letHappen cX6_letHappen 5 none) 5 105 g [.ref (ga g [0]), .ref (ga g [11, c, 0]), .int 5, .int x, .int y] (xR g (xD h) (sX I c X) (xFh h) n) none (xR g (xD h) (sX I c (sTl h I p (up2 X 0 7 0))) (xFh h) n) 0 0 := by
  refine xM.of (by decide) (Nat.le_of_ble_eq_true rfl) ?_
  intro P_ e_ s m_ bl_ mt_ cd_ ls hx hb hr hown hlocks hml hnm hE hK hts hH hS hl
  have hl : lv_has ls 5 [(0, .ref (ga g [0])), (1, .ref (ga g [11, c, 0])), (2, .int 5), (3, .int x), (4, .int y)] := hl
  have h8 := hW.1
  refine lv_aload_n hx hb dX6_letHappen_0 rfl (lv_at hl 1 rfl) ?_
  refine lv_ifnonnull (tgt := 5) hx hb dX6_letHappen_1 (by decide) ?_
  refine lv_iload_n hx hb dX6_letHappen_5 rfl (lv_at hl 2 rfl) ?_
  refine lv_tableIn (tgt := 96) hx hb dX6_letHappen_6 (by decide) (by decide) rfl (by decide) ?_
  refine lv_aload_n hx hb dX6_letHappen_96 rfl (lv_at hl 1 rfl) ?_
  refine lv_iconst (v := 0) hx hb dX6_letHappen_97 (by decide) ?_
  obtain ⟨X1_, hX1_⟩ : ∃ z, z = up2 X 0 7 0 := ⟨_, rfl⟩
  refine x_put (C := RX0) (T := TX0) (N := 11) (ci := 0) hx hb hts iu0 tyX0 tyX0_ok nmX0 hown hK hH hS (id := [11, c, 0]) (by first | trivial | (simp only [xD]; omega) | (simp [xD]; done) | (simp [xD]; omega)) rfl rfl (by decide) 7 (by decide) (hts _ tw100) (fun _ h9 => h9) (Or.inl rfl) (ty := .boolean) (v := .int 0) (by decide +kernel) rfl rfl (I' := (sX I c X1_)) (F' := (xFh h)) (fun i hi => by rw [show (sX I c X1_) = _ from Eq.symm ((sX_up _ _ _ _ _ _).trans (congrArg (sX I c) hX1_.symm))]; exact up_id hi) (fun _ _ => rfl) (fun j9 => by rw [show (sX I c X1_) = _ from Eq.symm ((sX_up _ _ _ _ _ _).trans (congrArg (sX I c) hX1_.symm)), up_row]; exact xv_upd rfl j9) dX6_letHappen_98 (fun H locs hH hS => ?_)
  refine lv_goto (tgt := 120) hx hb dX6_letHappen_101 (by decide) ?_
  refine lv_aload_n hx hb dX6_letHappen_120 rfl (lv_at hl 1 rfl) ?_
  refine lv_dup hx hb dX6_letHappen_121 rfl ?_
  refine x_get (C := RX0) (T := TX0) (N := 11) (ci := 0) hx hb hts iu0 hown hK hH (id := [11, c, 0]) (by first | trivial | (simp only [xD]; omega) | (simp [xD]; done) | (simp [xD]; omega)) rfl rfl (by decide) 10 (by decide) (hts _ tw106) (fun _ h9 => h9) (sX_at _ _ _ _) (v := .int (X1_ 0 10)) rfl dX6_letHappen_122 ?_
  refine lv_iconst (v := 1) hx hb dX6_letHappen_125 (by decide) ?_
  refine lv_iadd hx hb dX6_letHappen_126 ?_
  obtain ⟨X2_, hX2_⟩ : ∃ z, z = up2 X1_ 0 10 ((X1_ 0 10) + 1) := ⟨_, rfl⟩
  refine x_put (C := RX0) (T := TX0) (N := 11) (ci := 0) hx hb hts iu0 tyX0 tyX0_ok nmX0 hown hK hH hS (id := [11, c, 0]) (by first | trivial | (simp only [xD]; omega) | (simp [xD]; done) | (simp [xD]; omega)) rfl rfl (by decide) 10 (by decide) (hts _ tw106) (fun _ h9 => h9) (Or.inl rfl) (ty := .int) (v := .int ((X1_ 0 10) + 1)) (by decide +kernel) rfl rfl (I' := (sX I c X2_)) (F' := (xFh h)) (fun i hi => by rw [show (sX I c X2_) = _ from Eq.symm ((sX_up _ _ _ _ _ _).trans (congrArg (sX I c) hX2_.symm))]; exact up_id hi) (fun _ _ => rfl) (fun j9 => by rw [show (sX I c X2_) = _ from Eq.symm ((sX_up _ _ _ _ _ _).trans (congrArg (sX I c) hX2_.symm)), up_row]; exact xv_upd rfl j9) dX6_letHappen_127 (fun H locs hH hS => ?_)
  refine lv_aload_n hx hb dX6_letHappen_130 rfl (lv_at hl 1 rfl) ?_
  refine x_V0 hx hb hml hown hE hS hl.1 cyX0_runRounds tw531 (c_X0_runRounds l g h I n c X2_ hc p hp hpp hW (by rw [hX2_, hX1_]; exact (hch.off (by decide) _ _).off (by decide) _ _)) ⟨Nat.le_of_ble_eq_true rfl, Nat.le_of_ble_eq_true rfl⟩ ⟨Nat.le_of_ble_eq_true rfl, Nat.le_of_ble_eq_true rfl⟩ (x_recv hK hH (id := [11, c, 0]) (by first | trivial | (simp only [xD]; omega) | (simp [xD]; done) | (simp [xD]; omega)) (ci := 0) rfl (by decide) rfl) hH rfl rfl (Nat.le_of_ble_eq_true rfl) dX6_letHappen_131 (fun H locs hH hS => ?_)
  refine lv_aload_n hx hb dX6_letHappen_134 rfl (lv_at hl 1 rfl) ?_
  refine lv_iconst (v := (-1)) hx hb dX6_letHappen_135 (by decide) ?_
  obtain ⟨X3_, hX3_⟩ : ∃ z, z = up2 (sRun (vP I p) (vC I p) (sCn h p) (sSz h p) X2_) 0 8 (-1) := ⟨_, rfl⟩
  refine x_put (C := RX0) (T := TX0) (N := 11) (ci := 0) hx hb hts iu0 tyX0 tyX0_ok nmX0 hown hK hH hS (id := [11, c, 0]) (by first | trivial | (simp only [xD]; omega) | (simp [xD]; done) | (simp [xD]; omega)) rfl rfl (by decide) 8 (by decide) (hts _ tw102) (fun _ h9 => h9) (Or.inl rfl) (ty := .int) (v := .int (-1)) (by decide +kernel) rfl rfl (I' := (sX I c X3_)) (F' := (xFh h)) (fun i hi => by rw [show (sX I c X3_) = _ from Eq.symm ((sX_up _ _ _ _ _ _).trans (congrArg (sX I c) hX3_.symm))]; exact up_id hi) (fun _ _ => rfl) (fun j9 => by rw [show (sX I c X3_) = _ from Eq.symm ((sX_up _ _ _ _ _ _).trans (congrArg (sX I c) hX3_.symm)), up_row]; exact xv_upd rfl j9) dX6_letHappen_136 (fun H locs hH hS => ?_)
  exact x_vret hx hb hr hlocks hS dX6_letHappen_139 (by rw [hX3_, hX2_, hX1_] at hH; exact hH)

set_option maxHeartbeats 1000000 in
set_option maxRecDepth 100000 in
theorem c_X6_letHappen_6 (l : Launch) (g : xG) (h : xS) (I : xI) (n c : Nat) (X : xX) (hc : c < sNc h ∨ c = 4) (q : Nat) (y : Int32) (hq : q < sNp h) (hWq : xWp h I q) (h3 : sNp h ≤ 3) (hz : I [0] 1 = nI (sNp h)) (hch : xCh X) : xM l yX6_letHappen (xws yX6_letHappen cX6_letHappen 5 none) 5 105 g [.ref (ga g [0]), .ref (ga g [11, c, 0]), .int 6, .int (nI q), .int y] (xR g (xD h) (sX I c X) (xFh h) n) none (xR g (xD h) (sX I c (sTl h I q X)) (xFh (hPl h c q)) n) 0 0 := by
  refine xM.of (by decide) (Nat.le_of_ble_eq_true rfl) ?_
  intro P_ e_ s m_ bl_ mt_ cd_ ls hx hb hr hown hlocks hml hnm hE hK hts hH hS hl
  have hl : lv_has ls 5 [(0, .ref (ga g [0])), (1, .ref (ga g [11, c, 0])), (2, .int 6), (3, .int (nI q)), (4, .int y)] := hl
  refine lv_aload_n hx hb dX6_letHappen_0 rfl (lv_at hl 1 rfl) ?_
  refine lv_ifnonnull (tgt := 5) hx hb dX6_letHappen_1 (by decide) ?_
  refine lv_iload_n hx hb dX6_letHappen_5 rfl (lv_at hl 2 rfl) ?_
  refine lv_tableIn (tgt := 104) hx hb dX6_letHappen_6 (by decide) (by decide) rfl (by decide) ?_
  refine lv_aload_n hx hb dX6_letHappen_104 rfl (lv_at hl 1 rfl) ?_
  refine lv_aload_n hx hb dX6_letHappen_105 rfl (lv_at hl 0 rfl) ?_
  refine lv_iload_n hx hb dX6_letHappen_106 rfl (lv_at hl 3 rfl) ?_
  refine x_V1 hx hb hml hown hE hS hl.1 cyX6_planAt tw251 (c_X6_planAt l g h (sX I c X) n q hq h3 hz) ⟨Nat.le_of_ble_eq_true rfl, Nat.le_of_ble_eq_true rfl⟩ ⟨Nat.le_of_ble_eq_true rfl, Nat.le_of_ble_eq_true rfl⟩ (x_recv hK hH (id := [0]) (by first | trivial | (simp only [xD]; omega) | (simp [xD]; done) | (simp [xD]; omega)) (ci := 6) rfl (by decide) rfl) hH rfl rfl (Nat.le_of_ble_eq_true rfl) dX6_letHappen_107 (fun H locs hH hS => ?_)
  refine x_V0 hx hb hml hown hE hS hl.1 cyX0_goBy tw522 (c_X0_goBy l g h I n c X hc q) ⟨Nat.le_of_ble_eq_true rfl, Nat.le_of_ble_eq_true rfl⟩ ⟨Nat.le_of_ble_eq_true rfl, Nat.le_of_ble_eq_true rfl⟩ (x_recv hK hH (id := [11, c, 0]) (by first | trivial | (simp only [xD]; omega) | (simp [xD]; done) | (simp [xD]; omega)) (ci := 0) rfl (by decide) rfl) hH rfl rfl (Nat.le_of_ble_eq_true rfl) dX6_letHappen_110 (fun H locs hH hS => ?_)
  refine lv_goto (tgt := 120) hx hb dX6_letHappen_113 (by decide) ?_
  refine lv_aload_n hx hb dX6_letHappen_120 rfl (lv_at hl 1 rfl) ?_
  refine lv_dup hx hb dX6_letHappen_121 rfl ?_
  refine x_get (C := RX0) (T := TX0) (N := 11) (ci := 0) hx hb hts iu0 hown hK hH (id := [11, c, 0]) (by first | trivial | (simp only [xD]; omega) | (simp [xD]; done) | (simp [xD]; omega)) rfl rfl (by decide) 10 (by decide) (hts _ tw106) (fun _ h9 => h9) (sX_at _ _ _ _) (v := .int (X 0 10)) rfl dX6_letHappen_122 ?_
  refine lv_iconst (v := 1) hx hb dX6_letHappen_125 (by decide) ?_
  refine lv_iadd hx hb dX6_letHappen_126 ?_
  obtain ⟨X1_, hX1_⟩ : ∃ z, z = up2 X 0 10 ((X 0 10) + 1) := ⟨_, rfl⟩
  refine x_put (C := RX0) (T := TX0) (N := 11) (ci := 0) hx hb hts iu0 tyX0 tyX0_ok nmX0 hown hK hH hS (id := [11, c, 0]) (by first | trivial | (simp only [xD]; omega) | (simp [xD]; done) | (simp [xD]; omega)) rfl rfl (by decide) 10 (by decide) (hts _ tw106) (fun _ h9 => h9) (Or.inl rfl) (ty := .int) (v := .int ((X 0 10) + 1)) (by decide +kernel) rfl rfl (I' := (sX I c X1_)) (F' := (xFh (hPl h c q))) (fun i hi => by rw [show (sX I c X1_) = _ from Eq.symm ((sX_up _ _ _ _ _ _).trans (congrArg (sX I c) hX1_.symm))]; exact up_id hi) (fun _ _ => rfl) (fun j9 => by rw [show (sX I c X1_) = _ from Eq.symm ((sX_up _ _ _ _ _ _).trans (congrArg (sX I c) hX1_.symm)), up_row]; exact xv_upd rfl j9) dX6_letHappen_127 (fun H locs hH hS => ?_)
  refine lv_aload_n hx hb dX6_letHappen_130 rfl (lv_at hl 1 rfl) ?_
  refine x_V0 hx hb hml hown hE hS hl.1 cyX0_runRounds tw531 (c_X0_runRounds l g (hPl h c q) I n c X1_ hc q (if_pos rfl) hq hWq (by rw [hX1_]; exact hch.off (by decide) _ _)) ⟨Nat.le_of_ble_eq_true rfl, Nat.le_of_ble_eq_true rfl⟩ ⟨Nat.le_of_ble_eq_true rfl, Nat.le_of_ble_eq_true rfl⟩ (x_recv hK hH (id := [11, c, 0]) (by first | trivial | (simp only [xD]; omega) | (simp [xD]; done) | (simp [xD]; omega)) (ci := 0) rfl (by decide) rfl) hH rfl rfl (Nat.le_of_ble_eq_true rfl) dX6_letHappen_131 (fun H locs hH hS => ?_)
  refine lv_aload_n hx hb dX6_letHappen_134 rfl (lv_at hl 1 rfl) ?_
  refine lv_iconst (v := (-1)) hx hb dX6_letHappen_135 (by decide) ?_
  obtain ⟨X2_, hX2_⟩ : ∃ z, z = up2 (sRun (vP I q) (vC I q) (sCn h q) (sSz h q) X1_) 0 8 (-1) := ⟨_, rfl⟩
  refine x_put (C := RX0) (T := TX0) (N := 11) (ci := 0) hx hb hts iu0 tyX0 tyX0_ok nmX0 hown hK hH hS (id := [11, c, 0]) (by first | trivial | (simp only [xD]; omega) | (simp [xD]; done) | (simp [xD]; omega)) rfl rfl (by decide) 8 (by decide) (hts _ tw102) (fun _ h9 => h9) (Or.inl rfl) (ty := .int) (v := .int (-1)) (by decide +kernel) rfl rfl (I' := (sX I c X2_)) (F' := (xFh (hPl h c q))) (fun i hi => by rw [show (sX I c X2_) = _ from Eq.symm ((sX_up _ _ _ _ _ _).trans (congrArg (sX I c) hX2_.symm))]; exact up_id hi) (fun _ _ => rfl) (fun j9 => by rw [show (sX I c X2_) = _ from Eq.symm ((sX_up _ _ _ _ _ _).trans (congrArg (sX I c) hX2_.symm)), up_row]; exact xv_upd rfl j9) dX6_letHappen_136 (fun H locs hH hS => ?_)
  exact x_vret hx hb hr hlocks hS dX6_letHappen_139 (by rw [hX2_, hX1_] at hH; exact hH)

set_option maxHeartbeats 1000000 in
set_option maxRecDepth 100000 in
theorem c_X6_letHappen_7 (l : Launch) (g : xG) (h : xS) (I : xI) (n c : Nat) (X : xX) (hc : c < sNc h ∨ c = 4) (p : Nat) (hp : sPl h c = p) (hpp : p < sNp h) (hW : xWp h I p) (y : Int32) (hch : xCh X) (x : Int32) : xM l yX6_letHappen (xws yX6_letHappen cX6_letHappen 5 none) 5 105 g [.ref (ga g [0]), .ref (ga g [11, c, 0]), .int 7, .int x, .int y] (xR g (xD h) (sX I c X) (xFh h) n) none (xR g (xD h) (sX I c (sTl h I p (sOld (vP I p) (sSz h p) X))) (xFh h) n) 0 0 := by
  refine xM.of (by decide) (Nat.le_of_ble_eq_true rfl) ?_
  intro P_ e_ s m_ bl_ mt_ cd_ ls hx hb hr hown hlocks hml hnm hE hK hts hH hS hl
  have hl : lv_has ls 5 [(0, .ref (ga g [0])), (1, .ref (ga g [11, c, 0])), (2, .int 7), (3, .int x), (4, .int y)] := hl
  have h8 := hW.1
  refine lv_aload_n hx hb dX6_letHappen_0 rfl (lv_at hl 1 rfl) ?_
  refine lv_ifnonnull (tgt := 5) hx hb dX6_letHappen_1 (by decide) ?_
  refine lv_iload_n hx hb dX6_letHappen_5 rfl (lv_at hl 2 rfl) ?_
  refine lv_tableOut (tgt := 116) hx hb dX6_letHappen_6 (by decide) (by decide) ?_
  refine lv_aload_n hx hb dX6_letHappen_116 rfl (lv_at hl 1 rfl) ?_
  refine x_V0 hx hb hml hown hE hS hl.1 cyX0_growOlder tw523 (c_X0_growOlder l g h I n c X hc p hp hpp hW hch) ⟨Nat.le_of_ble_eq_true rfl, Nat.le_of_ble_eq_true rfl⟩ ⟨Nat.le_of_ble_eq_true rfl, Nat.le_of_ble_eq_true rfl⟩ (x_recv hK hH (id := [11, c, 0]) (by first | trivial | (simp only [xD]; omega) | (simp [xD]; done) | (simp [xD]; omega)) (ci := 0) rfl (by decide) rfl) hH rfl rfl (Nat.le_of_ble_eq_true rfl) dX6_letHappen_117 (fun H locs hH hS => ?_)
  refine lv_aload_n hx hb dX6_letHappen_120 rfl (lv_at hl 1 rfl) ?_
  refine lv_dup hx hb dX6_letHappen_121 rfl ?_
  refine x_get (C := RX0) (T := TX0) (N := 11) (ci := 0) hx hb hts iu0 hown hK hH (id := [11, c, 0]) (by first | trivial | (simp only [xD]; omega) | (simp [xD]; done) | (simp [xD]; omega)) rfl rfl (by decide) 10 (by decide) (hts _ tw106) (fun _ h9 => h9) (sX_at _ _ _ _) (v := .int ((sOld (vP I p) (sSz h p) X) 0 10)) rfl dX6_letHappen_122 ?_
  refine lv_iconst (v := 1) hx hb dX6_letHappen_125 (by decide) ?_
  refine lv_iadd hx hb dX6_letHappen_126 ?_
  obtain ⟨X1_, hX1_⟩ : ∃ z, z = up2 (sOld (vP I p) (sSz h p) X) 0 10 (((sOld (vP I p) (sSz h p) X) 0 10) + 1) := ⟨_, rfl⟩
  refine x_put (C := RX0) (T := TX0) (N := 11) (ci := 0) hx hb hts iu0 tyX0 tyX0_ok nmX0 hown hK hH hS (id := [11, c, 0]) (by first | trivial | (simp only [xD]; omega) | (simp [xD]; done) | (simp [xD]; omega)) rfl rfl (by decide) 10 (by decide) (hts _ tw106) (fun _ h9 => h9) (Or.inl rfl) (ty := .int) (v := .int (((sOld (vP I p) (sSz h p) X) 0 10) + 1)) (by decide +kernel) rfl rfl (I' := (sX I c X1_)) (F' := (xFh h)) (fun i hi => by rw [show (sX I c X1_) = _ from Eq.symm ((sX_up _ _ _ _ _ _).trans (congrArg (sX I c) hX1_.symm))]; exact up_id hi) (fun _ _ => rfl) (fun j9 => by rw [show (sX I c X1_) = _ from Eq.symm ((sX_up _ _ _ _ _ _).trans (congrArg (sX I c) hX1_.symm)), up_row]; exact xv_upd rfl j9) dX6_letHappen_127 (fun H locs hH hS => ?_)
  refine lv_aload_n hx hb dX6_letHappen_130 rfl (lv_at hl 1 rfl) ?_
  refine x_V0 hx hb hml hown hE hS hl.1 cyX0_runRounds tw531 (c_X0_runRounds l g h I n c X1_ hc p hp hpp hW (by rw [hX1_]; exact hch.old.off (by decide) _ _)) ⟨Nat.le_of_ble_eq_true rfl, Nat.le_of_ble_eq_true rfl⟩ ⟨Nat.le_of_ble_eq_true rfl, Nat.le_of_ble_eq_true rfl⟩ (x_recv hK hH (id := [11, c, 0]) (by first | trivial | (simp only [xD]; omega) | (simp [xD]; done) | (simp [xD]; omega)) (ci := 0) rfl (by decide) rfl) hH rfl rfl (Nat.le_of_ble_eq_true rfl) dX6_letHappen_131 (fun H locs hH hS => ?_)
  refine lv_aload_n hx hb dX6_letHappen_134 rfl (lv_at hl 1 rfl) ?_
  refine lv_iconst (v := (-1)) hx hb dX6_letHappen_135 (by decide) ?_
  obtain ⟨X2_, hX2_⟩ : ∃ z, z = up2 (sRun (vP I p) (vC I p) (sCn h p) (sSz h p) X1_) 0 8 (-1) := ⟨_, rfl⟩
  refine x_put (C := RX0) (T := TX0) (N := 11) (ci := 0) hx hb hts iu0 tyX0 tyX0_ok nmX0 hown hK hH hS (id := [11, c, 0]) (by first | trivial | (simp only [xD]; omega) | (simp [xD]; done) | (simp [xD]; omega)) rfl rfl (by decide) 8 (by decide) (hts _ tw102) (fun _ h9 => h9) (Or.inl rfl) (ty := .int) (v := .int (-1)) (by decide +kernel) rfl rfl (I' := (sX I c X2_)) (F' := (xFh h)) (fun i hi => by rw [show (sX I c X2_) = _ from Eq.symm ((sX_up _ _ _ _ _ _).trans (congrArg (sX I c) hX2_.symm))]; exact up_id hi) (fun _ _ => rfl) (fun j9 => by rw [show (sX I c X2_) = _ from Eq.symm ((sX_up _ _ _ _ _ _).trans (congrArg (sX I c) hX2_.symm)), up_row]; exact xv_upd rfl j9) dX6_letHappen_136 (fun H locs hH hS => ?_)
  exact x_vret hx hb hr hlocks hS dX6_letHappen_139 (by rw [hX2_, hX1_] at hH; exact hH)
