/-! CONTRACTS: the leaves -/
set_option maxHeartbeats 1000000 in
set_option maxRecDepth 100000 in
theorem c_X0_stateOf (l : Launch) (g : xG) (h : xS) (I : xI) (n c k : Nat) (X : xX) (hc : c < sNc h ∨ c = 4) (hk : k < 8) (hch : xCh X) : xM l yX0_stateOf (xws yX0_stateOf cX0_stateOf 2 (some FieldType.char)) 1 12 g [.ref (ga g [11, c, 0]), .int (nI k)] (xR g (xD h) (sX I c X) (xFh h) n) (some (.int (X 2 k))) (xR g (xD h) (sX I c X) (xFh h) n) 0 0 := by
  refine xM.of (by decide) (Nat.le_of_ble_eq_true rfl) ?_
  intro P_ e_ s m_ bl_ mt_ cd_ ls hx hb hr hown hlocks hml hnm hE hK hts hH hS hl
  have hl : lv_has ls 2 [(0, .ref (ga g [11, c, 0])), (1, .int (nI k))] := hl
  refine lv_iload_n hx hb dX0_stateOf_0 rfl (lv_at hl 1 rfl) ?_
  refine lv_if_lt (tgt := 10) hx hb dX0_stateOf_1 (by decide) (fun q_ => absurd q_ (fun z_ => absurd ((nI_ltI (a := k) (b := 0) (by omega) (by omega)).mp z_) (by omega))) (fun _ => ?_)
  refine lv_iload_n hx hb dX0_stateOf_4 rfl (lv_at hl 1 rfl) ?_
  refine lv_bipush (v := 8) hx hb dX0_stateOf_5 (by decide) ?_
  refine lv_icmp_lt (tgt := 15) hx hb dX0_stateOf_7 (by decide) (fun _ => ?_) (fun q_ => absurd ((nI_ltI (a := k) (b := 8) (by omega) (by omega)).mpr (by omega)) q_)
  refine lv_aload_n hx hb dX0_stateOf_15 rfl (lv_at hl 0 rfl) ?_
  refine x_get (C := RX0) (T := TX0) (N := 11) (ci := 0) hx hb hts iu0 hown hK hH (id := [11, c, 0]) (by first | trivial | (simp only [xD]; omega)) rfl rfl (by decide) 2 (by decide) (hts _ tw89) (fun _ h9 => h9) (sX_at _ _ _ _) (v := .ref (ga g [11, c, 2])) rfl dX0_stateOf_16 ?_
  refine lv_iload_n hx hb dX0_stateOf_19 rfl (lv_at hl 1 rfl) ?_
  refine x_cald hx hb hK hH (id := [11, c, 2]) (by first | trivial | (simp only [xD]; omega)) (L := 8) rfl (sX_at _ _ _ _) k rfl (by omega) (by decide) dX0_stateOf_20 ?_
  exact x_zret hx hb hr hlocks hS dX0_stateOf_21 (hch k) rfl hH
