/-! CONTRACTS: the model, what happens to a case -/
set_option maxHeartbeats 1000000 in
set_option maxRecDepth 100000 in
theorem c_X7_set_c (l : Launch) (g : xG) (h : xS) (I : xI) (n : Nat) (m : Nat) (hm4 : m ≤ 4) (hm : I [20] 20 = nI m) (x y v : Int32) (hxb : sIn x 0 (nI m) = false)  : xM l yX7_set (xws yX7_set cX7_set 5 (some FieldType.int)) 3 55 g [.ref (ga g [20]), .int x, .int y, .int v] (xR g (xD h) I (xFh h) n) (some (.int 0)) (xR g (xD h) (up I [20] 23 1) (xFh h) n) 0 0 := by
  refine xM.of (by decide) (Nat.le_of_ble_eq_true rfl) ?_
  intro P_ e_ s m_ bl_ mt_ cd_ ls hx hb hr hown hlocks hml hnm hE hK hts hH hS hl
  have hl : lv_has ls 5 [(0, .ref (ga g [20])), (1, .int x), (2, .int y), (3, .int v)] := hl
  refine lv_aload_n hx hb dX7_set_0 rfl (lv_at hl 0 rfl) ?_
  refine lv_aload_n hx hb dX7_set_1 rfl (lv_at hl 0 rfl) ?_
  refine lv_iload_n hx hb dX7_set_2 rfl (lv_at hl 1 rfl) ?_
  refine x_V1 hx hb hml hown hE hS hl.1 cyX7_isCase tw1016 (c_X7_isCase l g h I n x m (by omega) hm) ⟨Nat.le_of_ble_eq_true rfl, Nat.le_of_ble_eq_true rfl⟩ ⟨Nat.le_of_ble_eq_true rfl, Nat.le_of_ble_eq_true rfl⟩ (x_recv hK hH (id := [20]) (by first | trivial | (simp only [xD]; omega) | (simp [xD]; done) | (simp [xD]; omega)) (ci := 7) rfl (by decide) rfl) hH rfl rfl (Nat.le_of_ble_eq_true rfl) dX7_set_3 (fun H locs hH hS => ?_)
  refine lv_if_ne (tgt := 13) hx hb dX7_set_6 (by decide) (fun q_ => absurd q_ (fun z_ => z_ ((b01_eq0 _).mpr hxb))) (fun _ => ?_)
  refine lv_iconst (v := 1) hx hb dX7_set_9 (by decide) ?_
  refine lv_goto (tgt := 38) hx hb dX7_set_10 (by decide) ?_
  obtain ⟨I1_, hI1_⟩ : ∃ z, z = up I [20] 23 1 := ⟨_, rfl⟩
  refine x_put (C := RX7) (T := TX7) (N := 24) (ci := 7) hx hb hts iu7 tyX7 tyX7_ok nmX7 hown hK hH hS (id := [20]) (by first | trivial | (simp only [xD]; omega) | (simp [xD]; done) | (simp [xD]; omega)) rfl rfl (by decide) 23 (by decide) (hts _ tw862) (fun _ h9 => h9) (Or.inl rfl) (ty := .int) (v := .int 1) (by decide +kernel) rfl rfl (I' := I1_) (F' := (xFh h)) (fun i hi => by rw [hI1_]; exact up_id hi) (fun _ _ => rfl) (fun j9 => by rw [hI1_, up_row]; exact xv_upd (ci := 7) (k := 23) rfl j9) dX7_set_38 (fun H locs hH hS => ?_)
  refine lv_aload_n hx hb dX7_set_41 rfl (lv_at hl 0 rfl) ?_
  refine x_get (C := RX7) (T := TX7) (N := 24) (ci := 7) hx hb hts iu7 hown hK hH (id := [20]) (by first | trivial | (simp only [xD]; omega) | (simp [xD]; done) | (simp [xD]; omega)) rfl rfl (by decide) 23 (by decide) (hts _ tw862) (fun _ h9 => h9) rfl (v := .int 1) (congrArg Value.int (by rw [hI1_]; exact up_at)) dX7_set_42 ?_
  refine lv_if_le (tgt := 50) hx hb dX7_set_45 (by decide) (fun q_ => absurd q_ (by decide)) (fun _ => ?_)
  refine lv_iconst (v := 0) hx hb dX7_set_48 (by decide) ?_
  exact x_iret hx hb hr hlocks hS dX7_set_49 rfl (by rw [hI1_] at hH; exact hH)

set_option maxHeartbeats 1000000 in
set_option maxRecDepth 100000 in
theorem c_X7_set_d (l : Launch) (g : xG) (h : xS) (I : xI) (n : Nat) (m : Nat) (hm4 : m ≤ 4) (hm : I [20] 20 = nI m) (c : Nat) (hc : c < m) (y v : Int32) (hy : sIn y 0 4 = false)  : xM l yX7_set (xws yX7_set cX7_set 5 (some FieldType.int)) 3 55 g [.ref (ga g [20]), .int (nI c), .int y, .int v] (xR g (xD h) I (xFh h) n) (some (.int 0)) (xR g (xD h) (up I [20] 23 2) (xFh h) n) 0 0 := by
  refine xM.of (by decide) (Nat.le_of_ble_eq_true rfl) ?_
  intro P_ e_ s m_ bl_ mt_ cd_ ls hx hb hr hown hlocks hml hnm hE hK hts hH hS hl
  have hl : lv_has ls 5 [(0, .ref (ga g [20])), (1, .int (nI c)), (2, .int y), (3, .int v)] := hl
  refine lv_aload_n hx hb dX7_set_0 rfl (lv_at hl 0 rfl) ?_
  refine lv_aload_n hx hb dX7_set_1 rfl (lv_at hl 0 rfl) ?_
  refine lv_iload_n hx hb dX7_set_2 rfl (lv_at hl 1 rfl) ?_
  refine x_V1 hx hb hml hown hE hS hl.1 cyX7_isCase tw1016 (c_X7_isCase l g h I n ((nI c)) m (by omega) hm) ⟨Nat.le_of_ble_eq_true rfl, Nat.le_of_ble_eq_true rfl⟩ ⟨Nat.le_of_ble_eq_true rfl, Nat.le_of_ble_eq_true rfl⟩ (x_recv hK hH (id := [20]) (by first | trivial | (simp only [xD]; omega) | (simp [xD]; done) | (simp [xD]; omega)) (ci := 7) rfl (by decide) rfl) hH rfl rfl (Nat.le_of_ble_eq_true rfl) dX7_set_3 (fun H locs hH hS => ?_)
  refine lv_if_ne (tgt := 13) hx hb dX7_set_6 (by decide) (fun _ => ?_) (fun q_ => absurd q_ (fun z_ => by rw [sIn_nI hc (by omega)] at z_; exact absurd z_ (by decide)))
  refine lv_iload_n hx hb dX7_set_13 rfl (lv_at hl 2 rfl) ?_
  refine lv_iconst (v := 0) hx hb dX7_set_14 (by decide) ?_
  refine lv_iconst (v := 3) hx hb dX7_set_15 (by decide) ?_
  refine x_S1 hx hb hml hown hE hS hl.1 cyX7_in tw933 (c_X7_in l g h I n y 0 3) ⟨Nat.le_of_ble_eq_true rfl, Nat.le_of_ble_eq_true rfl⟩ ⟨Nat.le_of_ble_eq_true rfl, Nat.le_of_ble_eq_true rfl⟩ hH rfl rfl (Nat.le_of_ble_eq_true rfl) dX7_set_16 (fun H locs hH hS => ?_)
  refine lv_if_eq (tgt := 33) hx hb dX7_set_19 (by decide) (fun _ => ?_) (fun q_ => absurd ((b01_eq0 _).mpr ((mIn_4 y).trans hy)) q_)
  refine lv_iconst (v := 2) hx hb dX7_set_33 (by decide) ?_
  refine lv_goto (tgt := 38) hx hb dX7_set_34 (by decide) ?_
  obtain ⟨I1_, hI1_⟩ : ∃ z, z = up I [20] 23 2 := ⟨_, rfl⟩
  refine x_put (C := RX7) (T := TX7) (N := 24) (ci := 7) hx hb hts iu7 tyX7 tyX7_ok nmX7 hown hK hH hS (id := [20]) (by first | trivial | (simp only [xD]; omega) | (simp [xD]; done) | (simp [xD]; omega)) rfl rfl (by decide) 23 (by decide) (hts _ tw862) (fun _ h9 => h9) (Or.inl rfl) (ty := .int) (v := .int 2) (by decide +kernel) rfl rfl (I' := I1_) (F' := (xFh h)) (fun i hi => by rw [hI1_]; exact up_id hi) (fun _ _ => rfl) (fun j9 => by rw [hI1_, up_row]; exact xv_upd (ci := 7) (k := 23) rfl j9) dX7_set_38 (fun H locs hH hS => ?_)
  refine lv_aload_n hx hb dX7_set_41 rfl (lv_at hl 0 rfl) ?_
  refine x_get (C := RX7) (T := TX7) (N := 24) (ci := 7) hx hb hts iu7 hown hK hH (id := [20]) (by first | trivial | (simp only [xD]; omega) | (simp [xD]; done) | (simp [xD]; omega)) rfl rfl (by decide) 23 (by decide) (hts _ tw862) (fun _ h9 => h9) rfl (v := .int 2) (congrArg Value.int (by rw [hI1_]; exact up_at)) dX7_set_42 ?_
  refine lv_if_le (tgt := 50) hx hb dX7_set_45 (by decide) (fun q_ => absurd q_ (by decide)) (fun _ => ?_)
  refine lv_iconst (v := 0) hx hb dX7_set_48 (by decide) ?_
  exact x_iret hx hb hr hlocks hS dX7_set_49 rfl (by rw [hI1_] at hH; exact hH)

set_option maxHeartbeats 1000000 in
set_option maxRecDepth 100000 in
theorem c_X7_set_v (l : Launch) (g : xG) (h : xS) (I : xI) (n : Nat) (m : Nat) (hm4 : m ≤ 4) (hm : I [20] 20 = nI m) (c : Nat) (hc : c < m) (j : Nat) (hj : j < 4) (v : Int32) (hv : sVl v = false)  : xM l yX7_set (xws yX7_set cX7_set 5 (some FieldType.int)) 3 55 g [.ref (ga g [20]), .int (nI c), .int (nI j), .int v] (xR g (xD h) I (xFh h) n) (some (.int 0)) (xR g (xD h) (up I [20] 23 2) (xFh h) n) 0 0 := by
  refine xM.of (by decide) (Nat.le_of_ble_eq_true rfl) ?_
  intro P_ e_ s m_ bl_ mt_ cd_ ls hx hb hr hown hlocks hml hnm hE hK hts hH hS hl
  have hl : lv_has ls 5 [(0, .ref (ga g [20])), (1, .int (nI c)), (2, .int (nI j)), (3, .int v)] := hl
  refine lv_aload_n hx hb dX7_set_0 rfl (lv_at hl 0 rfl) ?_
  refine lv_aload_n hx hb dX7_set_1 rfl (lv_at hl 0 rfl) ?_
  refine lv_iload_n hx hb dX7_set_2 rfl (lv_at hl 1 rfl) ?_
  refine x_V1 hx hb hml hown hE hS hl.1 cyX7_isCase tw1016 (c_X7_isCase l g h I n ((nI c)) m (by omega) hm) ⟨Nat.le_of_ble_eq_true rfl, Nat.le_of_ble_eq_true rfl⟩ ⟨Nat.le_of_ble_eq_true rfl, Nat.le_of_ble_eq_true rfl⟩ (x_recv hK hH (id := [20]) (by first | trivial | (simp only [xD]; omega) | (simp [xD]; done) | (simp [xD]; omega)) (ci := 7) rfl (by decide) rfl) hH rfl rfl (Nat.le_of_ble_eq_true rfl) dX7_set_3 (fun H locs hH hS => ?_)
  refine lv_if_ne (tgt := 13) hx hb dX7_set_6 (by decide) (fun _ => ?_) (fun q_ => absurd q_ (fun z_ => by rw [sIn_nI hc (by omega)] at z_; exact absurd z_ (by decide)))
  refine lv_iload_n hx hb dX7_set_13 rfl (lv_at hl 2 rfl) ?_
  refine lv_iconst (v := 0) hx hb dX7_set_14 (by decide) ?_
  refine lv_iconst (v := 3) hx hb dX7_set_15 (by decide) ?_
  refine x_S1 hx hb hml hown hE hS hl.1 cyX7_in tw933 (c_X7_in l g h I n ((nI j)) 0 3) ⟨Nat.le_of_ble_eq_true rfl, Nat.le_of_ble_eq_true rfl⟩ ⟨Nat.le_of_ble_eq_true rfl, Nat.le_of_ble_eq_true rfl⟩ hH rfl rfl (Nat.le_of_ble_eq_true rfl) dX7_set_16 (fun H locs hH hS => ?_)
  refine lv_if_eq (tgt := 33) hx hb dX7_set_19 (by decide) (fun q_ => absurd q_ (fun z_ => by rw [mIn_4, show sIn (nI j) 0 4 = true from sIn_nI (N := 4) hj (by omega)] at z_; exact absurd z_ (by decide))) (fun _ => ?_)
  refine lv_iload_n hx hb dX7_set_22 rfl (lv_at hl 3 rfl) ?_
  refine lv_bipush (v := (-99)) hx hb dX7_set_23 (by decide) ?_
  refine lv_bipush (v := 99) hx hb dX7_set_25 (by decide) ?_
  refine x_S1 hx hb hml hown hE hS hl.1 cyX7_in tw933 (c_X7_in l g h I n v ((-99)) 99) ⟨Nat.le_of_ble_eq_true rfl, Nat.le_of_ble_eq_true rfl⟩ ⟨Nat.le_of_ble_eq_true rfl, Nat.le_of_ble_eq_true rfl⟩ hH rfl rfl (Nat.le_of_ble_eq_true rfl) dX7_set_27 (fun H locs hH hS => ?_)
  refine lv_if_ne (tgt := 37) hx hb dX7_set_30 (by decide) (fun q_ => absurd q_ (fun z_ => z_ ((b01_eq0 _).mpr ((mIn_v v).trans hv)))) (fun _ => ?_)
  refine lv_iconst (v := 2) hx hb dX7_set_33 (by decide) ?_
  refine lv_goto (tgt := 38) hx hb dX7_set_34 (by decide) ?_
  obtain ⟨I1_, hI1_⟩ : ∃ z, z = up I [20] 23 2 := ⟨_, rfl⟩
  refine x_put (C := RX7) (T := TX7) (N := 24) (ci := 7) hx hb hts iu7 tyX7 tyX7_ok nmX7 hown hK hH hS (id := [20]) (by first | trivial | (simp only [xD]; omega) | (simp [xD]; done) | (simp [xD]; omega)) rfl rfl (by decide) 23 (by decide) (hts _ tw862) (fun _ h9 => h9) (Or.inl rfl) (ty := .int) (v := .int 2) (by decide +kernel) rfl rfl (I' := I1_) (F' := (xFh h)) (fun i hi => by rw [hI1_]; exact up_id hi) (fun _ _ => rfl) (fun j9 => by rw [hI1_, up_row]; exact xv_upd (ci := 7) (k := 23) rfl j9) dX7_set_38 (fun H locs hH hS => ?_)
  refine lv_aload_n hx hb dX7_set_41 rfl (lv_at hl 0 rfl) ?_
  refine x_get (C := RX7) (T := TX7) (N := 24) (ci := 7) hx hb hts iu7 hown hK hH (id := [20]) (by first | trivial | (simp only [xD]; omega) | (simp [xD]; done) | (simp [xD]; omega)) rfl rfl (by decide) 23 (by decide) (hts _ tw862) (fun _ h9 => h9) rfl (v := .int 2) (congrArg Value.int (by rw [hI1_]; exact up_at)) dX7_set_42 ?_
  refine lv_if_le (tgt := 50) hx hb dX7_set_45 (by decide) (fun q_ => absurd q_ (by decide)) (fun _ => ?_)
  refine lv_iconst (v := 0) hx hb dX7_set_48 (by decide) ?_
  exact x_iret hx hb hr hlocks hS dX7_set_49 rfl (by rw [hI1_] at hH; exact hH)

set_option maxHeartbeats 1000000 in
set_option maxRecDepth 100000 in
theorem c_X7_set (l : Launch) (g : xG) (h : xS) (I : xI) (n : Nat) (c : Nat) (X : xX) (m : Nat) (hm4 : m ≤ 4) (hm : I [20] 20 = nI m) (hc : c < m) (p : Nat) (hpp : p < 3) (hpo : I [24, 11] c = nI p) (hA : mA h I p) (hW : xWp h I p) (j : Nat) (hj : j < 4) (v : Int32) (hv : sVl v = true)  : xM l yX7_set (xws yX7_set cX7_set 5 (some FieldType.int)) 19 437 g [.ref (ga g [20]), .int (nI c), .int (nI j), .int v] (xR g (xD h) (mW I c X) (xFh h) n) (some (.int (X 1 j))) (xR g (xD h) (mW (up I [20] 23 0) c (sTail (vP I p) (vC I p) (sCn h p) (sSz h p) (up2 X 1 j v))) (xFh h) n) 0 0 := by
  refine xM.of (by decide) (Nat.le_of_ble_eq_true rfl) ?_
  intro P_ e_ s m_ bl_ mt_ cd_ ls hx hb hr hown hlocks hml hnm hE hK hts hH hS hl
  have hl : lv_has ls 5 [(0, .ref (ga g [20])), (1, .int (nI c)), (2, .int (nI j)), (3, .int v)] := hl
  have h8 := hW.1
  have hc4 : c < 4 := by omega
  refine lv_aload_n hx hb dX7_set_0 rfl (lv_at hl 0 rfl) ?_
  refine lv_aload_n hx hb dX7_set_1 rfl (lv_at hl 0 rfl) ?_
  refine lv_iload_n hx hb dX7_set_2 rfl (lv_at hl 1 rfl) ?_
  refine x_V1 hx hb hml hown hE hS hl.1 cyX7_isCase tw1016 (c_X7_isCase l g h (mW I c X) n (nI c) m (by omega) (by rw [mW_20 _ _ _ (by decide)]; exact hm)) ⟨Nat.le_of_ble_eq_true rfl, Nat.le_of_ble_eq_true rfl⟩ ⟨Nat.le_of_ble_eq_true rfl, Nat.le_of_ble_eq_true rfl⟩ (x_recv hK hH (id := [20]) (by first | trivial | (simp only [xD]; omega) | (simp [xD]; done) | (simp [xD]; omega)) (ci := 7) rfl (by decide) rfl) hH rfl rfl (Nat.le_of_ble_eq_true rfl) dX7_set_3 (fun H locs hH hS => ?_)
  refine lv_if_ne (tgt := 13) hx hb dX7_set_6 (by decide) (fun _ => ?_) (fun q_ => absurd q_ (fun z_ => by rw [sIn_nI hc (by omega)] at z_; exact absurd z_ (by decide)))
  refine lv_iload_n hx hb dX7_set_13 rfl (lv_at hl 2 rfl) ?_
  refine lv_iconst (v := 0) hx hb dX7_set_14 (by decide) ?_
  refine lv_iconst (v := 3) hx hb dX7_set_15 (by decide) ?_
  refine x_S1 hx hb hml hown hE hS hl.1 cyX7_in tw933 (c_X7_in l g h (mW I c X) n ((nI j)) 0 3) ⟨Nat.le_of_ble_eq_true rfl, Nat.le_of_ble_eq_true rfl⟩ ⟨Nat.le_of_ble_eq_true rfl, Nat.le_of_ble_eq_true rfl⟩ hH rfl rfl (Nat.le_of_ble_eq_true rfl) dX7_set_16 (fun H locs hH hS => ?_)
  refine lv_if_eq (tgt := 33) hx hb dX7_set_19 (by decide) (fun q_ => absurd q_ (fun z_ => by rw [mIn_4, show sIn (nI j) 0 4 = true from sIn_nI (N := 4) hj (by omega)] at z_; exact absurd z_ (by decide))) (fun _ => ?_)
  refine lv_iload_n hx hb dX7_set_22 rfl (lv_at hl 3 rfl) ?_
  refine lv_bipush (v := (-99)) hx hb dX7_set_23 (by decide) ?_
  refine lv_bipush (v := 99) hx hb dX7_set_25 (by decide) ?_
  refine x_S1 hx hb hml hown hE hS hl.1 cyX7_in tw933 (c_X7_in l g h (mW I c X) n v ((-99)) 99) ⟨Nat.le_of_ble_eq_true rfl, Nat.le_of_ble_eq_true rfl⟩ ⟨Nat.le_of_ble_eq_true rfl, Nat.le_of_ble_eq_true rfl⟩ hH rfl rfl (Nat.le_of_ble_eq_true rfl) dX7_set_27 (fun H locs hH hS => ?_)
  refine lv_if_ne (tgt := 37) hx hb dX7_set_30 (by decide) (fun _ => ?_) (fun q_ => absurd q_ (fun z_ => by rw [mIn_v, hv] at z_; exact absurd z_ (by decide)))
  refine lv_iconst (v := 0) hx hb dX7_set_37 (by decide) ?_
  obtain ⟨I1_, hI1_⟩ : ∃ z, z = up I [20] 23 0 := ⟨_, rfl⟩
  refine x_put (C := RX7) (T := TX7) (N := 24) (ci := 7) hx hb hts iu7 tyX7 tyX7_ok nmX7 hown hK hH hS (id := [20]) (by first | trivial | (simp only [xD]; omega) | (simp [xD]; done) | (simp [xD]; omega)) rfl rfl (by decide) 23 (by decide) (hts _ tw862) (fun _ h9 => h9) (Or.inl rfl) (ty := .int) (v := .int 0) (by decide +kernel) rfl rfl (I' := (mW I1_ c X)) (F' := (xFh h)) (fun i hi => by rw [show (mW I1_ c X) = _ from Eq.symm ((mW_u20 _ _ _ _ (by decide)).trans (congrArg (fun z => mW z c X) hI1_.symm))]; exact up_id hi) (fun _ _ => rfl) (fun j9 => by rw [show (mW I1_ c X) = _ from Eq.symm ((mW_u20 _ _ _ _ (by decide)).trans (congrArg (fun z => mW z c X) hI1_.symm)), up_row]; exact xv_upd rfl j9) dX7_set_38 (fun H locs hH hS => ?_)
  have hsm : ∀ id, pK id = true → I1_ id = I id := by rw [hI1_]; exact pK_20 I 23 _
  have hpo1 : I1_ [24, 11] c = nI p := by rw [hI1_]; exact hpo
  have hA1 := hA.same hsm
  have hW1 := hW.same hsm
  have e1 := vP_same hsm p
  have e2 := vC_same hsm p
  refine lv_aload_n hx hb dX7_set_41 rfl (lv_at hl 0 rfl) ?_
  refine x_get (C := RX7) (T := TX7) (N := 24) (ci := 7) hx hb hts iu7 hown hK hH (id := [20]) (by first | trivial | (simp only [xD]; omega) | (simp [xD]; done) | (simp [xD]; omega)) rfl rfl (by decide) 23 (by decide) (hts _ tw862) (fun _ h9 => h9) rfl (v := .int 0) (congrArg Value.int ((mW_20 _ _ _ (by decide)).trans (by rw [hI1_]; exact up_at))) dX7_set_42 ?_
  refine lv_if_le (tgt := 50) hx hb dX7_set_45 (by decide) (fun _ => ?_) (fun q_ => absurd (by decide) q_)
  refine lv_aload_n hx hb dX7_set_50 rfl (lv_at hl 0 rfl) ?_
  refine x_get (C := RX7) (T := TX7) (N := 24) (ci := 7) hx hb hts iu7 hown hK hH (id := [20]) (by first | trivial | (simp only [xD]; omega) | (simp [xD]; done) | (simp [xD]; omega)) rfl rfl (by decide) 12 (by decide) (hts _ tw851) (fun _ h9 => h9) rfl (v := .ref (ga g [21, 12])) rfl dX7_set_51 ?_
  refine lv_iload_n hx hb dX7_set_54 rfl (lv_at hl 1 rfl) ?_
  refine x_aald hx hb hK hH (id := [21, 12]) (by first | trivial | (simp only [xD]; omega) | (simp [xD]; done) | (simp [xD]; omega)) 7 (L := 4) rfl (by decide) c rfl (by omega) (by decide) (v := .ref (ga g [22, 12, c])) (by show rq _ (if _ then _ else _) = _; rw [if_pos (show c < xLn 12 by show _ < 4; omega)]; rfl) dX7_set_55 ?_
  refine lv_iload_n hx hb dX7_set_56 rfl (lv_at hl 2 rfl) ?_
  refine x_iald hx hb hK hH (id := [22, 12, c]) (by first | trivial | (simp only [xD]; omega) | (simp [xD]; done) | (simp [xD]; omega)) (L := 4) rfl (r := (X 1)) (mW_r1 _ _ _) j rfl (by omega) (by decide) dX7_set_57 ?_
  refine lv_istore (lv' := [(4, .int (X 1 j)), (0, .ref (ga g [20])), (1, .int (nI c)), (2, .int (nI j)), (3, .int v)]) hx hb dX7_set_58 hl (by decide) rfl (fun ls hl => ?_)
  refine lv_aload_n hx hb dX7_set_60 rfl (lv_at hl 1 rfl) ?_
  refine x_get (C := RX7) (T := TX7) (N := 24) (ci := 7) hx hb hts iu7 hown hK hH (id := [20]) (by first | trivial | (simp only [xD]; omega) | (simp [xD]; done) | (simp [xD]; omega)) rfl rfl (by decide) 12 (by decide) (hts _ tw851) (fun _ h9 => h9) rfl (v := .ref (ga g [21, 12])) rfl dX7_set_61 ?_
  refine lv_iload_n hx hb dX7_set_64 rfl (lv_at hl 2 rfl) ?_
  refine x_aald hx hb hK hH (id := [21, 12]) (by first | trivial | (simp only [xD]; omega) | (simp [xD]; done) | (simp [xD]; omega)) 7 (L := 4) rfl (by decide) c rfl (by omega) (by decide) (v := .ref (ga g [22, 12, c])) (by show rq _ (if _ then _ else _) = _; rw [if_pos (show c < xLn 12 by show _ < 4; omega)]; rfl) dX7_set_65 ?_
  refine lv_iload_n hx hb dX7_set_66 rfl (lv_at hl 3 rfl) ?_
  refine lv_iload_n hx hb dX7_set_67 rfl (lv_at hl 4 rfl) ?_
  obtain ⟨X2_, hX2_⟩ : ∃ z, z = up2 X 1 j v := ⟨_, rfl⟩
  refine x_iast hx hb hK hH hS (id := [22, 12, c]) (by first | trivial | (simp only [xD]; omega) | (simp [xD]; done) | (simp [xD]; omega)) (L := 4) rfl j rfl (by omega) (by decide) ((mW_u1 _ _ _ _ _).trans (congrArg (mW I1_ c) hX2_.symm)) dX7_set_68 (fun H locs hH hS => ?_)
  refine lv_aload_n hx hb dX7_set_69 rfl (lv_at hl 1 rfl) ?_
  refine lv_iload_n hx hb dX7_set_70 rfl (lv_at hl 2 rfl) ?_
  refine x_V0 hx hb hml hown hE hS hl.1 cyX7_goes tw984 (c_X7_goes l g h I1_ n c X2_ hc4 p hpp hpo1 hA1 hW1) ⟨Nat.le_of_ble_eq_true rfl, Nat.le_of_ble_eq_true rfl⟩ ⟨Nat.le_of_ble_eq_true rfl, Nat.le_of_ble_eq_true rfl⟩ (x_recv hK hH (id := [20]) (by first | trivial | (simp only [xD]; omega) | (simp [xD]; done) | (simp [xD]; omega)) (ci := 7) rfl (by decide) rfl) hH rfl rfl (Nat.le_of_ble_eq_true rfl) dX7_set_71 (fun H locs hH hS => ?_)
  refine lv_iload hx hb dX7_set_74 (lv_at hl 0 rfl) ?_
  exact x_iret hx hb hr hlocks hS dX7_set_76 rfl (by rw [e1, e2, hX2_, hI1_] at hH; exact hH)

set_option maxHeartbeats 1000000 in
set_option maxRecDepth 100000 in
theorem c_X7_setWaiting_c (l : Launch) (g : xG) (h : xS) (I : xI) (n : Nat) (m : Nat) (hm4 : m ≤ 4) (hm : I [20] 20 = nI m) (x v : Int32) (hxb : sIn x 0 (nI m) = false)  : xM l yX7_setWaiting (xws yX7_setWaiting cX7_setWaiting 4 (some FieldType.boolean)) 3 55 g [.ref (ga g [20]), .int x, .int v] (xR g (xD h) I (xFh h) n) (some (.int 0)) (xR g (xD h) (up I [20] 23 1) (xFh h) n) 0 0 := by
  refine xM.of (by decide) (Nat.le_of_ble_eq_true rfl) ?_
  intro P_ e_ s m_ bl_ mt_ cd_ ls hx hb hr hown hlocks hml hnm hE hK hts hH hS hl
  have hl : lv_has ls 4 [(0, .ref (ga g [20])), (1, .int x), (2, .int v)] := hl
  refine lv_aload_n hx hb dX7_setWaiting_0 rfl (lv_at hl 0 rfl) ?_
  refine lv_aload_n hx hb dX7_setWaiting_1 rfl (lv_at hl 0 rfl) ?_
  refine lv_iload_n hx hb dX7_setWaiting_2 rfl (lv_at hl 1 rfl) ?_
  refine x_V1 hx hb hml hown hE hS hl.1 cyX7_isCase tw1016 (c_X7_isCase l g h I n x m (by omega) hm) ⟨Nat.le_of_ble_eq_true rfl, Nat.le_of_ble_eq_true rfl⟩ ⟨Nat.le_of_ble_eq_true rfl, Nat.le_of_ble_eq_true rfl⟩ (x_recv hK hH (id := [20]) (by first | trivial | (simp only [xD]; omega) | (simp [xD]; done) | (simp [xD]; omega)) (ci := 7) rfl (by decide) rfl) hH rfl rfl (Nat.le_of_ble_eq_true rfl) dX7_setWaiting_3 (fun H locs hH hS => ?_)
  refine lv_if_eq (tgt := 13) hx hb dX7_setWaiting_6 (by decide) (fun _ => ?_) (fun q_ => absurd ((b01_eq0 _).mpr hxb) q_)
  refine lv_iconst (v := 1) hx hb dX7_setWaiting_13 (by decide) ?_
  obtain ⟨I1_, hI1_⟩ : ∃ z, z = up I [20] 23 1 := ⟨_, rfl⟩
  refine x_put (C := RX7) (T := TX7) (N := 24) (ci := 7) hx hb hts iu7 tyX7 tyX7_ok nmX7 hown hK hH hS (id := [20]) (by first | trivial | (simp only [xD]; omega) | (simp [xD]; done) | (simp [xD]; omega)) rfl rfl (by decide) 23 (by decide) (hts _ tw862) (fun _ h9 => h9) (Or.inl rfl) (ty := .int) (v := .int 1) (by decide +kernel) rfl rfl (I' := I1_) (F' := (xFh h)) (fun i hi => by rw [hI1_]; exact up_id hi) (fun _ _ => rfl) (fun j9 => by rw [hI1_, up_row]; exact xv_upd (ci := 7) (k := 23) rfl j9) dX7_setWaiting_14 (fun H locs hH hS => ?_)
  refine lv_aload_n hx hb dX7_setWaiting_17 rfl (lv_at hl 0 rfl) ?_
  refine x_get (C := RX7) (T := TX7) (N := 24) (ci := 7) hx hb hts iu7 hown hK hH (id := [20]) (by first | trivial | (simp only [xD]; omega) | (simp [xD]; done) | (simp [xD]; omega)) rfl rfl (by decide) 23 (by decide) (hts _ tw862) (fun _ h9 => h9) rfl (v := .int 1) (congrArg Value.int (by rw [hI1_]; exact up_at)) dX7_setWaiting_18 ?_
  refine lv_if_le (tgt := 26) hx hb dX7_setWaiting_21 (by decide) (fun q_ => absurd q_ (by decide)) (fun _ => ?_)
  refine lv_iconst (v := 0) hx hb dX7_setWaiting_24 (by decide) ?_
  exact x_zret hx hb hr hlocks hS dX7_setWaiting_25 rfl rfl (by rw [hI1_] at hH; exact hH)

set_option maxHeartbeats 1000000 in
set_option maxRecDepth 100000 in
theorem c_X7_setWaiting (l : Launch) (g : xG) (h : xS) (I : xI) (n : Nat) (c : Nat) (X : xX) (m : Nat) (hm4 : m ≤ 4) (hm : I [20] 20 = nI m) (hc : c < m) (p : Nat) (hpp : p < 3) (hpo : I [24, 11] c = nI p) (hA : mA h I p) (hW : xWp h I p) (v : Int32) (hv : sBo v) (hv2 : sBo (X 0 7))  : xM l yX7_setWaiting (xws yX7_setWaiting cX7_setWaiting 4 (some FieldType.boolean)) 19 437 g [.ref (ga g [20]), .int (nI c), .int v] (xR g (xD h) (mW I c X) (xFh h) n) (some (.int (X 0 7))) (xR g (xD h) (mW (up I [20] 23 0) c (sTail (vP I p) (vC I p) (sCn h p) (sSz h p) (up2 X 0 7 v))) (xFh h) n) 0 0 := by
  refine xM.of (by decide) (Nat.le_of_ble_eq_true rfl) ?_
  intro P_ e_ s m_ bl_ mt_ cd_ ls hx hb hr hown hlocks hml hnm hE hK hts hH hS hl
  have hl : lv_has ls 4 [(0, .ref (ga g [20])), (1, .int (nI c)), (2, .int v)] := hl
  have h8 := hW.1
  have hc4 : c < 4 := by omega
  refine lv_aload_n hx hb dX7_setWaiting_0 rfl (lv_at hl 0 rfl) ?_
  refine lv_aload_n hx hb dX7_setWaiting_1 rfl (lv_at hl 0 rfl) ?_
  refine lv_iload_n hx hb dX7_setWaiting_2 rfl (lv_at hl 1 rfl) ?_
  refine x_V1 hx hb hml hown hE hS hl.1 cyX7_isCase tw1016 (c_X7_isCase l g h (mW I c X) n (nI c) m (by omega) (by rw [mW_20 _ _ _ (by decide)]; exact hm)) ⟨Nat.le_of_ble_eq_true rfl, Nat.le_of_ble_eq_true rfl⟩ ⟨Nat.le_of_ble_eq_true rfl, Nat.le_of_ble_eq_true rfl⟩ (x_recv hK hH (id := [20]) (by first | trivial | (simp only [xD]; omega) | (simp [xD]; done) | (simp [xD]; omega)) (ci := 7) rfl (by decide) rfl) hH rfl rfl (Nat.le_of_ble_eq_true rfl) dX7_setWaiting_3 (fun H locs hH hS => ?_)
  refine lv_if_eq (tgt := 13) hx hb dX7_setWaiting_6 (by decide) (fun q_ => absurd q_ (fun z_ => by rw [sIn_nI hc (by omega)] at z_; exact absurd z_ (by decide))) (fun _ => ?_)
  refine lv_iconst (v := 0) hx hb dX7_setWaiting_9 (by decide) ?_
  refine lv_goto (tgt := 14) hx hb dX7_setWaiting_10 (by decide) ?_
  obtain ⟨I1_, hI1_⟩ : ∃ z, z = up I [20] 23 0 := ⟨_, rfl⟩
  refine x_put (C := RX7) (T := TX7) (N := 24) (ci := 7) hx hb hts iu7 tyX7 tyX7_ok nmX7 hown hK hH hS (id := [20]) (by first | trivial | (simp only [xD]; omega) | (simp [xD]; done) | (simp [xD]; omega)) rfl rfl (by decide) 23 (by decide) (hts _ tw862) (fun _ h9 => h9) (Or.inl rfl) (ty := .int) (v := .int 0) (by decide +kernel) rfl rfl (I' := (mW I1_ c X)) (F' := (xFh h)) (fun i hi => by rw [show (mW I1_ c X) = _ from Eq.symm ((mW_u20 _ _ _ _ (by decide)).trans (congrArg (fun z => mW z c X) hI1_.symm))]; exact up_id hi) (fun _ _ => rfl) (fun j9 => by rw [show (mW I1_ c X) = _ from Eq.symm ((mW_u20 _ _ _ _ (by decide)).trans (congrArg (fun z => mW z c X) hI1_.symm)), up_row]; exact xv_upd rfl j9) dX7_setWaiting_14 (fun H locs hH hS => ?_)
  have hsm : ∀ id, pK id = true → I1_ id = I id := by rw [hI1_]; exact pK_20 I 23 _
  have hpo1 : I1_ [24, 11] c = nI p := by rw [hI1_]; exact hpo
  have hA1 := hA.same hsm
  have hW1 := hW.same hsm
  have e1 := vP_same hsm p
  have e2 := vC_same hsm p
  refine lv_aload_n hx hb dX7_setWaiting_17 rfl (lv_at hl 0 rfl) ?_
  refine x_get (C := RX7) (T := TX7) (N := 24) (ci := 7) hx hb hts iu7 hown hK hH (id := [20]) (by first | trivial | (simp only [xD]; omega) | (simp [xD]; done) | (simp [xD]; omega)) rfl rfl (by decide) 23 (by decide) (hts _ tw862) (fun _ h9 => h9) rfl (v := .int 0) (congrArg Value.int ((mW_20 _ _ _ (by decide)).trans (by rw [hI1_]; exact up_at))) dX7_setWaiting_18 ?_
  refine lv_if_le (tgt := 26) hx hb dX7_setWaiting_21 (by decide) (fun _ => ?_) (fun q_ => absurd (by decide) q_)
  refine lv_aload_n hx hb dX7_setWaiting_26 rfl (lv_at hl 0 rfl) ?_
  refine x_get (C := RX7) (T := TX7) (N := 24) (ci := 7) hx hb hts iu7 hown hK hH (id := [20]) (by first | trivial | (simp only [xD]; omega) | (simp [xD]; done) | (simp [xD]; omega)) rfl rfl (by decide) 13 (by decide) (hts _ tw852) (fun _ h9 => h9) rfl (v := .ref (ga g [24, 13])) rfl dX7_setWaiting_27 ?_
  refine lv_iload_n hx hb dX7_setWaiting_30 rfl (lv_at hl 1 rfl) ?_
  refine x_bald hx hb hK hH (id := [24, 13]) (by first | trivial | (simp only [xD]; omega) | (simp [xD]; done) | (simp [xD]; omega)) (L := 4) rfl (r := (mW I1_ c X [24, 13])) rfl c rfl (by omega) (by decide) dX7_setWaiting_31 ?_
  rw [show (mW I1_ c X [24, 13] c) = (X 0 7) from mW_c7 _ _ _]
  refine lv_istore_n (lv' := [(3, .int (X 0 7)), (0, .ref (ga g [20])), (1, .int (nI c)), (2, .int v)]) hx hb dX7_setWaiting_32 rfl hl (by decide) rfl (fun ls hl => ?_)
  refine lv_aload_n hx hb dX7_setWaiting_33 rfl (lv_at hl 1 rfl) ?_
  refine x_get (C := RX7) (T := TX7) (N := 24) (ci := 7) hx hb hts iu7 hown hK hH (id := [20]) (by first | trivial | (simp only [xD]; omega) | (simp [xD]; done) | (simp [xD]; omega)) rfl rfl (by decide) 13 (by decide) (hts _ tw852) (fun _ h9 => h9) rfl (v := .ref (ga g [24, 13])) rfl dX7_setWaiting_34 ?_
  refine lv_iload_n hx hb dX7_setWaiting_37 rfl (lv_at hl 2 rfl) ?_
  refine lv_iload_n hx hb dX7_setWaiting_38 rfl (lv_at hl 3 rfl) ?_
  obtain ⟨X2_, hX2_⟩ : ∃ z, z = up2 X 0 7 v := ⟨_, rfl⟩
  refine x_bast hx hb hK hH hS (id := [24, 13]) (by first | trivial | (simp only [xD]; omega) | (simp [xD]; done) | (simp [xD]; omega)) (L := 4) rfl c rfl (by omega) (by decide) hv.nar ((mW_u0_7 _ _ _ _).trans (congrArg (mW I1_ c) hX2_.symm)) dX7_setWaiting_39 (fun H locs hH hS => ?_)
  refine lv_aload_n hx hb dX7_setWaiting_40 rfl (lv_at hl 1 rfl) ?_
  refine lv_iload_n hx hb dX7_setWaiting_41 rfl (lv_at hl 2 rfl) ?_
  refine x_V0 hx hb hml hown hE hS hl.1 cyX7_goes tw984 (c_X7_goes l g h I1_ n c X2_ hc4 p hpp hpo1 hA1 hW1) ⟨Nat.le_of_ble_eq_true rfl, Nat.le_of_ble_eq_true rfl⟩ ⟨Nat.le_of_ble_eq_true rfl, Nat.le_of_ble_eq_true rfl⟩ (x_recv hK hH (id := [20]) (by first | trivial | (simp only [xD]; omega) | (simp [xD]; done) | (simp [xD]; omega)) (ci := 7) rfl (by decide) rfl) hH rfl rfl (Nat.le_of_ble_eq_true rfl) dX7_setWaiting_42 (fun H locs hH hS => ?_)
  refine lv_iload_n hx hb dX7_setWaiting_45 rfl (lv_at hl 0 rfl) ?_
  exact x_zret hx hb hr hlocks hS dX7_setWaiting_46 hv2.nar rfl (by rw [e1, e2, hX2_, hI1_] at hH; exact hH)

def mKp (I : xI) (X : xX) (i : Nat) : xI := fun id k => if id = [24, 22] ∧ k < i then X 2 k else I id k
theorem mKp_0 (I : xI) (X : xX) : mKp I X 0 = I := by funext id k; exact if_neg (fun z => absurd z.2 (by omega))
theorem mKp_s (I : xI) (X : xX) (i : Nat) : up (mKp I X i) [24, 22] i (X 2 i) = mKp I X (i + 1) := by
  funext id k
  unfold up mKp
  by_cases a : id = [24, 22]
  · by_cases b : k = i
    · subst b; rw [if_pos ⟨a, rfl⟩, if_pos ⟨a, by omega⟩]
    · rw [if_neg (fun z => b z.2)]
      by_cases d : k < i
      · rw [if_pos ⟨a, d⟩, if_pos ⟨a, by omega⟩]
      · rw [if_neg (fun z => d z.2), if_neg (fun z => by have := z.2; omega)]
  · rw [if_neg (fun z => a z.1), if_neg (fun z => a z.1), if_neg (fun z => a z.1)]
theorem mKp_ne (I : xI) (X : xX) (i : Nat) {id : List Nat} (h : id ≠ [24, 22]) : mKp I X i id = I id := by funext k; exact if_neg (fun z => h z.1)
theorem mW_rem (I : xI) (c : Nat) (X : xX) : mW I c (sRem X 8) = mW I c X := by
  have h : ∀ f, f ≠ 3 → sRem X 8 f = X f := fun f hf => by funext k; exact if_neg (fun z => hf z.1)
  funext id
  unfold mW
  rw [h 0 (by decide), h 1 (by decide), h 2 (by decide), h 4 (by decide), h 5 (by decide)]