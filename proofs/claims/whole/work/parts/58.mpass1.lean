/-! CONTRACTS: the model, pass refuses -/
set_option maxHeartbeats 1000000 in
set_option maxRecDepth 100000 in
theorem c_X7_pass_1 (l : Launch) (g : xG) (h : xS) (I : xI) (n : Nat) (x : Int32) (hx9 : mIn x 1 10 = false)  : xM l yX7_pass (xws yX7_pass cX7_pass 5 (some FieldType.int)) 2 34 g [.ref (ga g [20]), .int x] (xR g (xD h) I (xFh h) n) (some (.int 0)) (xR g (xD h) (up I [20] 23 1) (xFh h) n) 0 0 := by
  refine xM.of (by decide) (Nat.le_of_ble_eq_true rfl) ?_
  intro P_ e_ s m_ bl_ mt_ cd_ ls hx hb hr hown hlocks hml hnm hE hK hts hH hS hl
  have hl : lv_has ls 5 [(0, .ref (ga g [20])), (1, .int x)] := hl
  refine lv_aload_n hx hb dX7_pass_0 rfl (lv_at hl 0 rfl) ?_
  refine lv_iload_n hx hb dX7_pass_1 rfl (lv_at hl 1 rfl) ?_
  refine lv_iconst (v := 1) hx hb dX7_pass_2 (by decide) ?_
  refine lv_bipush (v := 10) hx hb dX7_pass_3 (by decide) ?_
  refine x_S1 hx hb hml hown hE hS hl.1 cyX7_in tw933 (c_X7_in l g h I n x 1 10) ⟨Nat.le_of_ble_eq_true rfl, Nat.le_of_ble_eq_true rfl⟩ ⟨Nat.le_of_ble_eq_true rfl, Nat.le_of_ble_eq_true rfl⟩ hH rfl rfl (Nat.le_of_ble_eq_true rfl) dX7_pass_5 (fun H locs hH hS => ?_)
  refine lv_if_eq (tgt := 15) hx hb dX7_pass_8 (by decide) (fun _ => ?_) (fun q_ => absurd ((b01_eq0 _).mpr hx9) q_)
  refine lv_iconst (v := 1) hx hb dX7_pass_15 (by decide) ?_
  obtain ⟨I1_, hI1_⟩ : ∃ z, z = up I [20] 23 1 := ⟨_, rfl⟩
  refine x_put (C := RX7) (T := TX7) (N := 24) (ci := 7) hx hb hts iu7 tyX7 tyX7_ok nmX7 hown hK hH hS (id := [20]) (by first | trivial | (simp only [xD]; omega) | (simp [xD]; done) | (simp [xD]; omega)) rfl rfl (by decide) 23 (by decide) (hts _ tw862) (fun _ h9 => h9) (Or.inl rfl) (ty := .int) (v := .int 1) (by decide +kernel) rfl rfl (I' := I1_) (F' := (xFh h)) (fun i hi => by rw [hI1_]; exact up_id hi) (fun _ _ => rfl) (fun j9 => by rw [hI1_, up_row]; exact xv_upd (ci := 7) (k := 23) rfl j9) dX7_pass_16 (fun H locs hH hS => ?_)
  refine lv_aload_n hx hb dX7_pass_19 rfl (lv_at hl 0 rfl) ?_
  refine x_get (C := RX7) (T := TX7) (N := 24) (ci := 7) hx hb hts iu7 hown hK hH (id := [20]) (by first | trivial | (simp only [xD]; omega) | (simp [xD]; done) | (simp [xD]; omega)) rfl rfl (by decide) 23 (by decide) (hts _ tw862) (fun _ h9 => h9) rfl (v := .int 1) (congrArg Value.int (by rw [hI1_]; exact up_at)) dX7_pass_20 ?_
  refine lv_if_le (tgt := 28) hx hb dX7_pass_23 (by decide) (fun q_ => absurd q_ (by decide)) (fun _ => ?_)
  refine lv_iconst (v := 0) hx hb dX7_pass_26 (by decide) ?_
  exact x_iret hx hb hr hlocks hS dX7_pass_27 rfl (by rw [hI1_] at hH; exact hH)
