/-! CONTRACTS: the model, reads -/
set_option maxHeartbeats 1000000 in
set_option maxRecDepth 100000 in
theorem c_X7_setLimit_p (l : Launch) (g : xG) (h : xS) (I : xI) (n : Nat) (q : Nat) (hq : q ≤ 3) (hz : I [20] 10 = nI q) (x y v : Int32) (hxb : sIn x 0 (nI q) = false) : xM l yX7_setLimit (xws yX7_setLimit cX7_setLimit 5 (some FieldType.int)) 4 77 g [.ref (ga g [20]), .int x, .int y, .int v] (xR g (xD h) I (xFh h) n) (some (.int 0)) (xR g (xD h) (up I [20] 23 1) (xFh h) n) 0 0 := by
  refine xM.of (by decide) (Nat.le_of_ble_eq_true rfl) ?_
  intro P_ e_ s m_ bl_ mt_ cd_ ls hx hb hr hown hlocks hml hnm hE hK hts hH hS hl
  have hl : lv_has ls 5 [(0, .ref (ga g [20])), (1, .int x), (2, .int y), (3, .int v)] := hl
  refine lv_aload_n hx hb dX7_setLimit_0 rfl (lv_at hl 0 rfl) ?_
  refine lv_aload_n hx hb dX7_setLimit_1 rfl (lv_at hl 0 rfl) ?_
  refine lv_iload_n hx hb dX7_setLimit_2 rfl (lv_at hl 1 rfl) ?_
  refine lv_iload_n hx hb dX7_setLimit_3 rfl (lv_at hl 2 rfl) ?_
  refine x_V1 hx hb hml hown hE hS hl.1 cyX7_isStep tw936 (c_X7_isStep_0 l g h I n q hq hz x y hxb) ⟨Nat.le_of_ble_eq_true rfl, Nat.le_of_ble_eq_true rfl⟩ ⟨Nat.le_of_ble_eq_true rfl, Nat.le_of_ble_eq_true rfl⟩ (x_recv hK hH (id := [20]) (by first | trivial | (simp only [xD]; omega) | (simp [xD]; done) | (simp [xD]; omega)) (ci := 7) rfl (by decide) rfl) hH rfl rfl (Nat.le_of_ble_eq_true rfl) dX7_setLimit_4 (fun H locs hH hS => ?_)
  refine lv_if_ne (tgt := 14) hx hb dX7_setLimit_7 (by decide) (fun q_ => absurd (by decide) q_) (fun _ => ?_)
  refine lv_iconst (v := 1) hx hb dX7_setLimit_10 (by decide) ?_
  refine lv_goto (tgt := 59) hx hb dX7_setLimit_11 (by decide) ?_
  obtain ⟨I1_, hI1_⟩ : ∃ z, z = up I [20] 23 1 := ⟨_, rfl⟩
  refine x_put (C := RX7) (T := TX7) (N := 24) (ci := 7) hx hb hts iu7 tyX7 tyX7_ok nmX7 hown hK hH hS (id := [20]) (by first | trivial | (simp only [xD]; omega) | (simp [xD]; done) | (simp [xD]; omega)) rfl rfl (by decide) 23 (by decide) (hts _ tw862) (fun _ h9 => h9) (Or.inl rfl) (ty := .int) (v := .int 1) (by decide +kernel) rfl rfl (I' := I1_) (F' := (xFh h)) (fun i hi => by rw [hI1_]; exact up_id hi) (fun _ _ => rfl) (fun j9 => by rw [hI1_, up_row]; exact xv_upd (ci := 7) (k := 23) rfl j9) dX7_setLimit_59 (fun H locs hH hS => ?_)
  refine lv_aload_n hx hb dX7_setLimit_62 rfl (lv_at hl 0 rfl) ?_
  refine x_get (C := RX7) (T := TX7) (N := 24) (ci := 7) hx hb hts iu7 hown hK hH (id := [20]) (by first | trivial | (simp only [xD]; omega) | (simp [xD]; done) | (simp [xD]; omega)) rfl rfl (by decide) 23 (by decide) (hts _ tw862) (fun _ h9 => h9) rfl (v := .int 1) (congrArg Value.int (by rw [hI1_]; exact up_at)) dX7_setLimit_63 ?_
  refine lv_if_le (tgt := 71) hx hb dX7_setLimit_66 (by decide) (fun q_ => absurd q_ (by decide)) (fun _ => ?_)
  refine lv_iconst (v := 0) hx hb dX7_setLimit_69 (by decide) ?_
  exact x_iret hx hb hr hlocks hS dX7_setLimit_70 rfl (by rw [hI1_] at hH; exact hH)

set_option maxHeartbeats 1000000 in
set_option maxRecDepth 100000 in
theorem c_X7_setLimit_s (l : Launch) (g : xG) (h : xS) (I : xI) (n : Nat) (q : Nat) (hq : q ≤ 3) (hz : I [20] 10 = nI q) (p : Nat) (hp : p < q) (k : Nat) (hk : k ≤ 8) (hs : I [24, 8] p = nI k) (y v : Int32) (hy : sIn y 0 (nI k) = false) : xM l yX7_setLimit (xws yX7_setLimit cX7_setLimit 5 (some FieldType.int)) 4 77 g [.ref (ga g [20]), .int (nI p), .int y, .int v] (xR g (xD h) I (xFh h) n) (some (.int 0)) (xR g (xD h) (up I [20] 23 1) (xFh h) n) 0 0 := by
  refine xM.of (by decide) (Nat.le_of_ble_eq_true rfl) ?_
  intro P_ e_ s m_ bl_ mt_ cd_ ls hx hb hr hown hlocks hml hnm hE hK hts hH hS hl
  have hl : lv_has ls 5 [(0, .ref (ga g [20])), (1, .int (nI p)), (2, .int y), (3, .int v)] := hl
  refine lv_aload_n hx hb dX7_setLimit_0 rfl (lv_at hl 0 rfl) ?_
  refine lv_aload_n hx hb dX7_setLimit_1 rfl (lv_at hl 0 rfl) ?_
  refine lv_iload_n hx hb dX7_setLimit_2 rfl (lv_at hl 1 rfl) ?_
  refine lv_iload_n hx hb dX7_setLimit_3 rfl (lv_at hl 2 rfl) ?_
  refine x_V1 hx hb hml hown hE hS hl.1 cyX7_isStep tw936 (c_X7_isStep_1 l g h I n q hq hz p hp k hk hs y) ⟨Nat.le_of_ble_eq_true rfl, Nat.le_of_ble_eq_true rfl⟩ ⟨Nat.le_of_ble_eq_true rfl, Nat.le_of_ble_eq_true rfl⟩ (x_recv hK hH (id := [20]) (by first | trivial | (simp only [xD]; omega) | (simp [xD]; done) | (simp [xD]; omega)) (ci := 7) rfl (by decide) rfl) hH rfl rfl (Nat.le_of_ble_eq_true rfl) dX7_setLimit_4 (fun H locs hH hS => ?_)
  refine lv_if_ne (tgt := 14) hx hb dX7_setLimit_7 (by decide) (fun q_ => absurd q_ (fun z_ => z_ ((b01_eq0 _).mpr hy))) (fun _ => ?_)
  refine lv_iconst (v := 1) hx hb dX7_setLimit_10 (by decide) ?_
  refine lv_goto (tgt := 59) hx hb dX7_setLimit_11 (by decide) ?_
  obtain ⟨I1_, hI1_⟩ : ∃ z, z = up I [20] 23 1 := ⟨_, rfl⟩
  refine x_put (C := RX7) (T := TX7) (N := 24) (ci := 7) hx hb hts iu7 tyX7 tyX7_ok nmX7 hown hK hH hS (id := [20]) (by first | trivial | (simp only [xD]; omega) | (simp [xD]; done) | (simp [xD]; omega)) rfl rfl (by decide) 23 (by decide) (hts _ tw862) (fun _ h9 => h9) (Or.inl rfl) (ty := .int) (v := .int 1) (by decide +kernel) rfl rfl (I' := I1_) (F' := (xFh h)) (fun i hi => by rw [hI1_]; exact up_id hi) (fun _ _ => rfl) (fun j9 => by rw [hI1_, up_row]; exact xv_upd (ci := 7) (k := 23) rfl j9) dX7_setLimit_59 (fun H locs hH hS => ?_)
  refine lv_aload_n hx hb dX7_setLimit_62 rfl (lv_at hl 0 rfl) ?_
  refine x_get (C := RX7) (T := TX7) (N := 24) (ci := 7) hx hb hts iu7 hown hK hH (id := [20]) (by first | trivial | (simp only [xD]; omega) | (simp [xD]; done) | (simp [xD]; omega)) rfl rfl (by decide) 23 (by decide) (hts _ tw862) (fun _ h9 => h9) rfl (v := .int 1) (congrArg Value.int (by rw [hI1_]; exact up_at)) dX7_setLimit_63 ?_
  refine lv_if_le (tgt := 71) hx hb dX7_setLimit_66 (by decide) (fun q_ => absurd q_ (by decide)) (fun _ => ?_)
  refine lv_iconst (v := 0) hx hb dX7_setLimit_69 (by decide) ?_
  exact x_iret hx hb hr hlocks hS dX7_setLimit_70 rfl (by rw [hI1_] at hH; exact hH)

set_option maxHeartbeats 1000000 in
set_option maxRecDepth 100000 in
theorem c_X7_setLimit_l (l : Launch) (g : xG) (h : xS) (I : xI) (n : Nat) (q : Nat) (hq : q ≤ 3) (hz : I [20] 10 = nI q) (p : Nat) (hp : p < q) (k : Nat) (hk : k ≤ 8) (hs : I [24, 8] p = nI k) (j : Nat) (hj : j < k) (v : Int32) (hl9 : mIn v 1 99 = false) : xM l yX7_setLimit (xws yX7_setLimit cX7_setLimit 5 (some FieldType.int)) 4 77 g [.ref (ga g [20]), .int (nI p), .int (nI j), .int v] (xR g (xD h) I (xFh h) n) (some (.int 0)) (xR g (xD h) (up I [20] 23 2) (xFh h) n) 0 0 := by
  refine xM.of (by decide) (Nat.le_of_ble_eq_true rfl) ?_
  intro P_ e_ s m_ bl_ mt_ cd_ ls hx hb hr hown hlocks hml hnm hE hK hts hH hS hl
  have hl : lv_has ls 5 [(0, .ref (ga g [20])), (1, .int (nI p)), (2, .int (nI j)), (3, .int v)] := hl
  refine lv_aload_n hx hb dX7_setLimit_0 rfl (lv_at hl 0 rfl) ?_
  refine lv_aload_n hx hb dX7_setLimit_1 rfl (lv_at hl 0 rfl) ?_
  refine lv_iload_n hx hb dX7_setLimit_2 rfl (lv_at hl 1 rfl) ?_
  refine lv_iload_n hx hb dX7_setLimit_3 rfl (lv_at hl 2 rfl) ?_
  refine x_V1 hx hb hml hown hE hS hl.1 cyX7_isStep tw936 (c_X7_isStep_1 l g h I n q hq hz p hp k hk hs ((nI j))) ⟨Nat.le_of_ble_eq_true rfl, Nat.le_of_ble_eq_true rfl⟩ ⟨Nat.le_of_ble_eq_true rfl, Nat.le_of_ble_eq_true rfl⟩ (x_recv hK hH (id := [20]) (by first | trivial | (simp only [xD]; omega) | (simp [xD]; done) | (simp [xD]; omega)) (ci := 7) rfl (by decide) rfl) hH rfl rfl (Nat.le_of_ble_eq_true rfl) dX7_setLimit_4 (fun H locs hH hS => ?_)
  refine lv_if_ne (tgt := 14) hx hb dX7_setLimit_7 (by decide) (fun _ => ?_) (fun q_ => absurd q_ (fun z_ => by rw [sIn_nI hj (by omega)] at z_; exact absurd z_ (by decide)))
  refine lv_iload_n hx hb dX7_setLimit_14 rfl (lv_at hl 3 rfl) ?_
  refine lv_iconst (v := 1) hx hb dX7_setLimit_15 (by decide) ?_
  refine lv_bipush (v := 99) hx hb dX7_setLimit_16 (by decide) ?_
  refine x_S1 hx hb hml hown hE hS hl.1 cyX7_in tw933 (c_X7_in l g h I n v 1 99) ⟨Nat.le_of_ble_eq_true rfl, Nat.le_of_ble_eq_true rfl⟩ ⟨Nat.le_of_ble_eq_true rfl, Nat.le_of_ble_eq_true rfl⟩ hH rfl rfl (Nat.le_of_ble_eq_true rfl) dX7_setLimit_18 (fun H locs hH hS => ?_)
  refine lv_if_ne (tgt := 28) hx hb dX7_setLimit_21 (by decide) (fun q_ => absurd q_ (fun z_ => z_ ((b01_eq0 _).mpr hl9))) (fun _ => ?_)
  refine lv_iconst (v := 2) hx hb dX7_setLimit_24 (by decide) ?_
  refine lv_goto (tgt := 59) hx hb dX7_setLimit_25 (by decide) ?_
  obtain ⟨I1_, hI1_⟩ : ∃ z, z = up I [20] 23 2 := ⟨_, rfl⟩
  refine x_put (C := RX7) (T := TX7) (N := 24) (ci := 7) hx hb hts iu7 tyX7 tyX7_ok nmX7 hown hK hH hS (id := [20]) (by first | trivial | (simp only [xD]; omega) | (simp [xD]; done) | (simp [xD]; omega)) rfl rfl (by decide) 23 (by decide) (hts _ tw862) (fun _ h9 => h9) (Or.inl rfl) (ty := .int) (v := .int 2) (by decide +kernel) rfl rfl (I' := I1_) (F' := (xFh h)) (fun i hi => by rw [hI1_]; exact up_id hi) (fun _ _ => rfl) (fun j9 => by rw [hI1_, up_row]; exact xv_upd (ci := 7) (k := 23) rfl j9) dX7_setLimit_59 (fun H locs hH hS => ?_)
  refine lv_aload_n hx hb dX7_setLimit_62 rfl (lv_at hl 0 rfl) ?_
  refine x_get (C := RX7) (T := TX7) (N := 24) (ci := 7) hx hb hts iu7 hown hK hH (id := [20]) (by first | trivial | (simp only [xD]; omega) | (simp [xD]; done) | (simp [xD]; omega)) rfl rfl (by decide) 23 (by decide) (hts _ tw862) (fun _ h9 => h9) rfl (v := .int 2) (congrArg Value.int (by rw [hI1_]; exact up_at)) dX7_setLimit_63 ?_
  refine lv_if_le (tgt := 71) hx hb dX7_setLimit_66 (by decide) (fun q_ => absurd q_ (by decide)) (fun _ => ?_)
  refine lv_iconst (v := 0) hx hb dX7_setLimit_69 (by decide) ?_
  exact x_iret hx hb hr hlocks hS dX7_setLimit_70 rfl (by rw [hI1_] at hH; exact hH)

set_option maxHeartbeats 1000000 in
set_option maxRecDepth 100000 in
theorem c_X7_setLimit_k (l : Launch) (g : xG) (h : xS) (I : xI) (n : Nat) (q : Nat) (hq : q ≤ 3) (hz : I [20] 10 = nI q) (p : Nat) (hp : p < q) (k : Nat) (hk : k ≤ 8) (hs : I [24, 8] p = nI k) (j : Nat) (hj : j < k) (v : Int32) (hl9 : mIn v 1 99 = true) (hk9 : ¬ I [22, 0, p] j = 116) : xM l yX7_setLimit (xws yX7_setLimit cX7_setLimit 5 (some FieldType.int)) 4 77 g [.ref (ga g [20]), .int (nI p), .int (nI j), .int v] (xR g (xD h) I (xFh h) n) (some (.int 0)) (xR g (xD h) (up I [20] 23 3) (xFh h) n) 0 0 := by
  refine xM.of (by decide) (Nat.le_of_ble_eq_true rfl) ?_
  intro P_ e_ s m_ bl_ mt_ cd_ ls hx hb hr hown hlocks hml hnm hE hK hts hH hS hl
  have hl : lv_has ls 5 [(0, .ref (ga g [20])), (1, .int (nI p)), (2, .int (nI j)), (3, .int v)] := hl
  refine lv_aload_n hx hb dX7_setLimit_0 rfl (lv_at hl 0 rfl) ?_
  refine lv_aload_n hx hb dX7_setLimit_1 rfl (lv_at hl 0 rfl) ?_
  refine lv_iload_n hx hb dX7_setLimit_2 rfl (lv_at hl 1 rfl) ?_
  refine lv_iload_n hx hb dX7_setLimit_3 rfl (lv_at hl 2 rfl) ?_
  refine x_V1 hx hb hml hown hE hS hl.1 cyX7_isStep tw936 (c_X7_isStep_1 l g h I n q hq hz p hp k hk hs ((nI j))) ⟨Nat.le_of_ble_eq_true rfl, Nat.le_of_ble_eq_true rfl⟩ ⟨Nat.le_of_ble_eq_true rfl, Nat.le_of_ble_eq_true rfl⟩ (x_recv hK hH (id := [20]) (by first | trivial | (simp only [xD]; omega) | (simp [xD]; done) | (simp [xD]; omega)) (ci := 7) rfl (by decide) rfl) hH rfl rfl (Nat.le_of_ble_eq_true rfl) dX7_setLimit_4 (fun H locs hH hS => ?_)
  refine lv_if_ne (tgt := 14) hx hb dX7_setLimit_7 (by decide) (fun _ => ?_) (fun q_ => absurd q_ (fun z_ => by rw [sIn_nI hj (by omega)] at z_; exact absurd z_ (by decide)))
  refine lv_iload_n hx hb dX7_setLimit_14 rfl (lv_at hl 3 rfl) ?_
  refine lv_iconst (v := 1) hx hb dX7_setLimit_15 (by decide) ?_
  refine lv_bipush (v := 99) hx hb dX7_setLimit_16 (by decide) ?_
  refine x_S1 hx hb hml hown hE hS hl.1 cyX7_in tw933 (c_X7_in l g h I n v 1 99) ⟨Nat.le_of_ble_eq_true rfl, Nat.le_of_ble_eq_true rfl⟩ ⟨Nat.le_of_ble_eq_true rfl, Nat.le_of_ble_eq_true rfl⟩ hH rfl rfl (Nat.le_of_ble_eq_true rfl) dX7_setLimit_18 (fun H locs hH hS => ?_)
  refine lv_if_ne (tgt := 28) hx hb dX7_setLimit_21 (by decide) (fun _ => ?_) (fun q_ => absurd q_ (fun z_ => by rw [hl9] at z_; exact absurd z_ (by decide)))
  refine lv_aload_n hx hb dX7_setLimit_28 rfl (lv_at hl 0 rfl) ?_
  refine x_get (C := RX7) (T := TX7) (N := 24) (ci := 7) hx hb hts iu7 hown hK hH (id := [20]) (by first | trivial | (simp only [xD]; omega) | (simp [xD]; done) | (simp [xD]; omega)) rfl rfl (by decide) 0 (by decide) (hts _ tw839) (fun _ h9 => h9) rfl (v := .ref (ga g [21, 0])) rfl dX7_setLimit_29 ?_
  refine lv_iload_n hx hb dX7_setLimit_32 rfl (lv_at hl 1 rfl) ?_
  refine x_aald hx hb hK hH (id := [21, 0]) (by first | trivial | (simp only [xD]; omega) | (simp [xD]; done) | (simp [xD]; omega)) 8 (L := 3) rfl (by decide) p rfl (by omega) (by decide) (v := .ref (ga g [22, 0, p])) (by show rq _ (if _ then _ else _) = _; rw [if_pos (show p < xLn 0 by show _ < 3; omega)]; rfl) dX7_setLimit_33 ?_
  refine lv_iload_n hx hb dX7_setLimit_34 rfl (lv_at hl 2 rfl) ?_
  refine x_cald hx hb hK hH (id := [22, 0, p]) (by first | trivial | (simp only [xD]; omega) | (simp [xD]; done) | (simp [xD]; omega)) (L := 8) rfl rfl j rfl (by omega) (by decide) dX7_setLimit_35 ?_
  refine lv_bipush (v := 116) hx hb dX7_setLimit_36 (by decide) ?_
  refine lv_icmp_eq (tgt := 45) hx hb dX7_setLimit_38 (by decide) (fun q_ => absurd q_ hk9) (fun _ => ?_)
  refine lv_iconst (v := 3) hx hb dX7_setLimit_41 (by decide) ?_
  refine lv_goto (tgt := 59) hx hb dX7_setLimit_42 (by decide) ?_
  obtain ⟨I1_, hI1_⟩ : ∃ z, z = up I [20] 23 3 := ⟨_, rfl⟩
  refine x_put (C := RX7) (T := TX7) (N := 24) (ci := 7) hx hb hts iu7 tyX7 tyX7_ok nmX7 hown hK hH hS (id := [20]) (by first | trivial | (simp only [xD]; omega) | (simp [xD]; done) | (simp [xD]; omega)) rfl rfl (by decide) 23 (by decide) (hts _ tw862) (fun _ h9 => h9) (Or.inl rfl) (ty := .int) (v := .int 3) (by decide +kernel) rfl rfl (I' := I1_) (F' := (xFh h)) (fun i hi => by rw [hI1_]; exact up_id hi) (fun _ _ => rfl) (fun j9 => by rw [hI1_, up_row]; exact xv_upd (ci := 7) (k := 23) rfl j9) dX7_setLimit_59 (fun H locs hH hS => ?_)
  refine lv_aload_n hx hb dX7_setLimit_62 rfl (lv_at hl 0 rfl) ?_
  refine x_get (C := RX7) (T := TX7) (N := 24) (ci := 7) hx hb hts iu7 hown hK hH (id := [20]) (by first | trivial | (simp only [xD]; omega) | (simp [xD]; done) | (simp [xD]; omega)) rfl rfl (by decide) 23 (by decide) (hts _ tw862) (fun _ h9 => h9) rfl (v := .int 3) (congrArg Value.int (by rw [hI1_]; exact up_at)) dX7_setLimit_63 ?_
  refine lv_if_le (tgt := 71) hx hb dX7_setLimit_66 (by decide) (fun q_ => absurd q_ (by decide)) (fun _ => ?_)
  refine lv_iconst (v := 0) hx hb dX7_setLimit_69 (by decide) ?_
  exact x_iret hx hb hr hlocks hS dX7_setLimit_70 rfl (by rw [hI1_] at hH; exact hH)

set_option maxHeartbeats 1000000 in
set_option maxRecDepth 100000 in
theorem c_X7_setLimit_u (l : Launch) (g : xG) (h : xS) (I : xI) (n : Nat) (q : Nat) (hq : q ≤ 3) (hz : I [20] 10 = nI q) (p : Nat) (hp : p < q) (k : Nat) (hk : k ≤ 8) (hs : I [24, 8] p = nI k) (j : Nat) (hj : j < k) (v : Int32) (hl9 : mIn v 1 99 = true) (hk9 : I [22, 0, p] j = 116) (hu : ¬ I [24, 9] p = 0) : xM l yX7_setLimit (xws yX7_setLimit cX7_setLimit 5 (some FieldType.int)) 4 77 g [.ref (ga g [20]), .int (nI p), .int (nI j), .int v] (xR g (xD h) I (xFh h) n) (some (.int 0)) (xR g (xD h) (up I [20] 23 4) (xFh h) n) 0 0 := by
  refine xM.of (by decide) (Nat.le_of_ble_eq_true rfl) ?_
  intro P_ e_ s m_ bl_ mt_ cd_ ls hx hb hr hown hlocks hml hnm hE hK hts hH hS hl
  have hl : lv_has ls 5 [(0, .ref (ga g [20])), (1, .int (nI p)), (2, .int (nI j)), (3, .int v)] := hl
  refine lv_aload_n hx hb dX7_setLimit_0 rfl (lv_at hl 0 rfl) ?_
  refine lv_aload_n hx hb dX7_setLimit_1 rfl (lv_at hl 0 rfl) ?_
  refine lv_iload_n hx hb dX7_setLimit_2 rfl (lv_at hl 1 rfl) ?_
  refine lv_iload_n hx hb dX7_setLimit_3 rfl (lv_at hl 2 rfl) ?_
  refine x_V1 hx hb hml hown hE hS hl.1 cyX7_isStep tw936 (c_X7_isStep_1 l g h I n q hq hz p hp k hk hs ((nI j))) ⟨Nat.le_of_ble_eq_true rfl, Nat.le_of_ble_eq_true rfl⟩ ⟨Nat.le_of_ble_eq_true rfl, Nat.le_of_ble_eq_true rfl⟩ (x_recv hK hH (id := [20]) (by first | trivial | (simp only [xD]; omega) | (simp [xD]; done) | (simp [xD]; omega)) (ci := 7) rfl (by decide) rfl) hH rfl rfl (Nat.le_of_ble_eq_true rfl) dX7_setLimit_4 (fun H locs hH hS => ?_)
  refine lv_if_ne (tgt := 14) hx hb dX7_setLimit_7 (by decide) (fun _ => ?_) (fun q_ => absurd q_ (fun z_ => by rw [sIn_nI hj (by omega)] at z_; exact absurd z_ (by decide)))
  refine lv_iload_n hx hb dX7_setLimit_14 rfl (lv_at hl 3 rfl) ?_
  refine lv_iconst (v := 1) hx hb dX7_setLimit_15 (by decide) ?_
  refine lv_bipush (v := 99) hx hb dX7_setLimit_16 (by decide) ?_
  refine x_S1 hx hb hml hown hE hS hl.1 cyX7_in tw933 (c_X7_in l g h I n v 1 99) ⟨Nat.le_of_ble_eq_true rfl, Nat.le_of_ble_eq_true rfl⟩ ⟨Nat.le_of_ble_eq_true rfl, Nat.le_of_ble_eq_true rfl⟩ hH rfl rfl (Nat.le_of_ble_eq_true rfl) dX7_setLimit_18 (fun H locs hH hS => ?_)
  refine lv_if_ne (tgt := 28) hx hb dX7_setLimit_21 (by decide) (fun _ => ?_) (fun q_ => absurd q_ (fun z_ => by rw [hl9] at z_; exact absurd z_ (by decide)))
  refine lv_aload_n hx hb dX7_setLimit_28 rfl (lv_at hl 0 rfl) ?_
  refine x_get (C := RX7) (T := TX7) (N := 24) (ci := 7) hx hb hts iu7 hown hK hH (id := [20]) (by first | trivial | (simp only [xD]; omega) | (simp [xD]; done) | (simp [xD]; omega)) rfl rfl (by decide) 0 (by decide) (hts _ tw839) (fun _ h9 => h9) rfl (v := .ref (ga g [21, 0])) rfl dX7_setLimit_29 ?_
  refine lv_iload_n hx hb dX7_setLimit_32 rfl (lv_at hl 1 rfl) ?_
  refine x_aald hx hb hK hH (id := [21, 0]) (by first | trivial | (simp only [xD]; omega) | (simp [xD]; done) | (simp [xD]; omega)) 8 (L := 3) rfl (by decide) p rfl (by omega) (by decide) (v := .ref (ga g [22, 0, p])) (by show rq _ (if _ then _ else _) = _; rw [if_pos (show p < xLn 0 by show _ < 3; omega)]; rfl) dX7_setLimit_33 ?_
  refine lv_iload_n hx hb dX7_setLimit_34 rfl (lv_at hl 2 rfl) ?_
  refine x_cald hx hb hK hH (id := [22, 0, p]) (by first | trivial | (simp only [xD]; omega) | (simp [xD]; done) | (simp [xD]; omega)) (L := 8) rfl rfl j rfl (by omega) (by decide) dX7_setLimit_35 ?_
  refine lv_bipush (v := 116) hx hb dX7_setLimit_36 (by decide) ?_
  refine lv_icmp_eq (tgt := 45) hx hb dX7_setLimit_38 (by decide) (fun _ => ?_) (fun q_ => absurd hk9 q_)
  refine lv_aload_n hx hb dX7_setLimit_45 rfl (lv_at hl 0 rfl) ?_
  refine x_get (C := RX7) (T := TX7) (N := 24) (ci := 7) hx hb hts iu7 hown hK hH (id := [20]) (by first | trivial | (simp only [xD]; omega) | (simp [xD]; done) | (simp [xD]; omega)) rfl rfl (by decide) 9 (by decide) (hts _ tw848) (fun _ h9 => h9) rfl (v := .ref (ga g [24, 9])) rfl dX7_setLimit_46 ?_
  refine lv_iload_n hx hb dX7_setLimit_49 rfl (lv_at hl 1 rfl) ?_
  refine x_bald hx hb hK hH (id := [24, 9]) (by first | trivial | (simp only [xD]; omega) | (simp [xD]; done) | (simp [xD]; omega)) (L := 3) rfl rfl p rfl (by omega) (by decide) dX7_setLimit_50 ?_
  refine lv_if_eq (tgt := 58) hx hb dX7_setLimit_51 (by decide) (fun q_ => absurd q_ hu) (fun _ => ?_)
  refine lv_iconst (v := 4) hx hb dX7_setLimit_54 (by decide) ?_
  refine lv_goto (tgt := 59) hx hb dX7_setLimit_55 (by decide) ?_
  obtain ⟨I1_, hI1_⟩ : ∃ z, z = up I [20] 23 4 := ⟨_, rfl⟩
  refine x_put (C := RX7) (T := TX7) (N := 24) (ci := 7) hx hb hts iu7 tyX7 tyX7_ok nmX7 hown hK hH hS (id := [20]) (by first | trivial | (simp only [xD]; omega) | (simp [xD]; done) | (simp [xD]; omega)) rfl rfl (by decide) 23 (by decide) (hts _ tw862) (fun _ h9 => h9) (Or.inl rfl) (ty := .int) (v := .int 4) (by decide +kernel) rfl rfl (I' := I1_) (F' := (xFh h)) (fun i hi => by rw [hI1_]; exact up_id hi) (fun _ _ => rfl) (fun j9 => by rw [hI1_, up_row]; exact xv_upd (ci := 7) (k := 23) rfl j9) dX7_setLimit_59 (fun H locs hH hS => ?_)
  refine lv_aload_n hx hb dX7_setLimit_62 rfl (lv_at hl 0 rfl) ?_
  refine x_get (C := RX7) (T := TX7) (N := 24) (ci := 7) hx hb hts iu7 hown hK hH (id := [20]) (by first | trivial | (simp only [xD]; omega) | (simp [xD]; done) | (simp [xD]; omega)) rfl rfl (by decide) 23 (by decide) (hts _ tw862) (fun _ h9 => h9) rfl (v := .int 4) (congrArg Value.int (by rw [hI1_]; exact up_at)) dX7_setLimit_63 ?_
  refine lv_if_le (tgt := 71) hx hb dX7_setLimit_66 (by decide) (fun q_ => absurd q_ (by decide)) (fun _ => ?_)
  refine lv_iconst (v := 0) hx hb dX7_setLimit_69 (by decide) ?_
  exact x_iret hx hb hr hlocks hS dX7_setLimit_70 rfl (by rw [hI1_] at hH; exact hH)

set_option maxHeartbeats 1000000 in
set_option maxRecDepth 100000 in
theorem c_X7_setLimit (l : Launch) (g : xG) (h : xS) (I : xI) (n : Nat) (q : Nat) (hq : q ≤ 3) (hz : I [20] 10 = nI q) (p : Nat) (hp : p < q) (k : Nat) (hk : k ≤ 8) (hs : I [24, 8] p = nI k) (j : Nat) (hj : j < k) (v : Int32) (hl9 : mIn v 1 99 = true) (hk9 : I [22, 0, p] j = 116) (hu : I [24, 9] p = 0) : xM l yX7_setLimit (xws yX7_setLimit cX7_setLimit 5 (some FieldType.int)) 4 77 g [.ref (ga g [20]), .int (nI p), .int (nI j), .int v] (xR g (xD h) I (xFh h) n) (some (.int (I [22, 3, p] j))) (xR g (xD h) (up (up I [20] 23 0) [22, 3, p] j v) (xFh h) n) 0 0 := by
  refine xM.of (by decide) (Nat.le_of_ble_eq_true rfl) ?_
  intro P_ e_ s m_ bl_ mt_ cd_ ls hx hb hr hown hlocks hml hnm hE hK hts hH hS hl
  have hl : lv_has ls 5 [(0, .ref (ga g [20])), (1, .int (nI p)), (2, .int (nI j)), (3, .int v)] := hl
  refine lv_aload_n hx hb dX7_setLimit_0 rfl (lv_at hl 0 rfl) ?_
  refine lv_aload_n hx hb dX7_setLimit_1 rfl (lv_at hl 0 rfl) ?_
  refine lv_iload_n hx hb dX7_setLimit_2 rfl (lv_at hl 1 rfl) ?_
  refine lv_iload_n hx hb dX7_setLimit_3 rfl (lv_at hl 2 rfl) ?_
  refine x_V1 hx hb hml hown hE hS hl.1 cyX7_isStep tw936 (c_X7_isStep_1 l g h I n q hq hz p hp k hk hs ((nI j))) ⟨Nat.le_of_ble_eq_true rfl, Nat.le_of_ble_eq_true rfl⟩ ⟨Nat.le_of_ble_eq_true rfl, Nat.le_of_ble_eq_true rfl⟩ (x_recv hK hH (id := [20]) (by first | trivial | (simp only [xD]; omega) | (simp [xD]; done) | (simp [xD]; omega)) (ci := 7) rfl (by decide) rfl) hH rfl rfl (Nat.le_of_ble_eq_true rfl) dX7_setLimit_4 (fun H locs hH hS => ?_)
  refine lv_if_ne (tgt := 14) hx hb dX7_setLimit_7 (by decide) (fun _ => ?_) (fun q_ => absurd q_ (fun z_ => by rw [sIn_nI hj (by omega)] at z_; exact absurd z_ (by decide)))
  refine lv_iload_n hx hb dX7_setLimit_14 rfl (lv_at hl 3 rfl) ?_
  refine lv_iconst (v := 1) hx hb dX7_setLimit_15 (by decide) ?_
  refine lv_bipush (v := 99) hx hb dX7_setLimit_16 (by decide) ?_
  refine x_S1 hx hb hml hown hE hS hl.1 cyX7_in tw933 (c_X7_in l g h I n v 1 99) ⟨Nat.le_of_ble_eq_true rfl, Nat.le_of_ble_eq_true rfl⟩ ⟨Nat.le_of_ble_eq_true rfl, Nat.le_of_ble_eq_true rfl⟩ hH rfl rfl (Nat.le_of_ble_eq_true rfl) dX7_setLimit_18 (fun H locs hH hS => ?_)
  refine lv_if_ne (tgt := 28) hx hb dX7_setLimit_21 (by decide) (fun _ => ?_) (fun q_ => absurd q_ (fun z_ => by rw [hl9] at z_; exact absurd z_ (by decide)))
  refine lv_aload_n hx hb dX7_setLimit_28 rfl (lv_at hl 0 rfl) ?_
  refine x_get (C := RX7) (T := TX7) (N := 24) (ci := 7) hx hb hts iu7 hown hK hH (id := [20]) (by first | trivial | (simp only [xD]; omega) | (simp [xD]; done) | (simp [xD]; omega)) rfl rfl (by decide) 0 (by decide) (hts _ tw839) (fun _ h9 => h9) rfl (v := .ref (ga g [21, 0])) rfl dX7_setLimit_29 ?_
  refine lv_iload_n hx hb dX7_setLimit_32 rfl (lv_at hl 1 rfl) ?_
  refine x_aald hx hb hK hH (id := [21, 0]) (by first | trivial | (simp only [xD]; omega) | (simp [xD]; done) | (simp [xD]; omega)) 8 (L := 3) rfl (by decide) p rfl (by omega) (by decide) (v := .ref (ga g [22, 0, p])) (by show rq _ (if _ then _ else _) = _; rw [if_pos (show p < xLn 0 by show _ < 3; omega)]; rfl) dX7_setLimit_33 ?_
  refine lv_iload_n hx hb dX7_setLimit_34 rfl (lv_at hl 2 rfl) ?_
  refine x_cald hx hb hK hH (id := [22, 0, p]) (by first | trivial | (simp only [xD]; omega) | (simp [xD]; done) | (simp [xD]; omega)) (L := 8) rfl rfl j rfl (by omega) (by decide) dX7_setLimit_35 ?_
  refine lv_bipush (v := 116) hx hb dX7_setLimit_36 (by decide) ?_
  refine lv_icmp_eq (tgt := 45) hx hb dX7_setLimit_38 (by decide) (fun _ => ?_) (fun q_ => absurd hk9 q_)
  refine lv_aload_n hx hb dX7_setLimit_45 rfl (lv_at hl 0 rfl) ?_
  refine x_get (C := RX7) (T := TX7) (N := 24) (ci := 7) hx hb hts iu7 hown hK hH (id := [20]) (by first | trivial | (simp only [xD]; omega) | (simp [xD]; done) | (simp [xD]; omega)) rfl rfl (by decide) 9 (by decide) (hts _ tw848) (fun _ h9 => h9) rfl (v := .ref (ga g [24, 9])) rfl dX7_setLimit_46 ?_
  refine lv_iload_n hx hb dX7_setLimit_49 rfl (lv_at hl 1 rfl) ?_
  refine x_bald hx hb hK hH (id := [24, 9]) (by first | trivial | (simp only [xD]; omega) | (simp [xD]; done) | (simp [xD]; omega)) (L := 3) rfl rfl p rfl (by omega) (by decide) dX7_setLimit_50 ?_
  refine lv_if_eq (tgt := 58) hx hb dX7_setLimit_51 (by decide) (fun _ => ?_) (fun q_ => absurd hu q_)
  refine lv_iconst (v := 0) hx hb dX7_setLimit_58 (by decide) ?_
  obtain ⟨I1_, hI1_⟩ : ∃ z, z = up I [20] 23 0 := ⟨_, rfl⟩
  refine x_put (C := RX7) (T := TX7) (N := 24) (ci := 7) hx hb hts iu7 tyX7 tyX7_ok nmX7 hown hK hH hS (id := [20]) (by first | trivial | (simp only [xD]; omega) | (simp [xD]; done) | (simp [xD]; omega)) rfl rfl (by decide) 23 (by decide) (hts _ tw862) (fun _ h9 => h9) (Or.inl rfl) (ty := .int) (v := .int 0) (by decide +kernel) rfl rfl (I' := I1_) (F' := (xFh h)) (fun i hi => by rw [hI1_]; exact up_id hi) (fun _ _ => rfl) (fun j9 => by rw [hI1_, up_row]; exact xv_upd (ci := 7) (k := 23) rfl j9) dX7_setLimit_59 (fun H locs hH hS => ?_)
  refine lv_aload_n hx hb dX7_setLimit_62 rfl (lv_at hl 0 rfl) ?_
  refine x_get (C := RX7) (T := TX7) (N := 24) (ci := 7) hx hb hts iu7 hown hK hH (id := [20]) (by first | trivial | (simp only [xD]; omega) | (simp [xD]; done) | (simp [xD]; omega)) rfl rfl (by decide) 23 (by decide) (hts _ tw862) (fun _ h9 => h9) rfl (v := .int 0) (congrArg Value.int (by rw [hI1_]; exact up_at)) dX7_setLimit_63 ?_
  refine lv_if_le (tgt := 71) hx hb dX7_setLimit_66 (by decide) (fun _ => ?_) (fun q_ => absurd (by decide) q_)
  refine lv_aload_n hx hb dX7_setLimit_71 rfl (lv_at hl 0 rfl) ?_
  refine x_get (C := RX7) (T := TX7) (N := 24) (ci := 7) hx hb hts iu7 hown hK hH (id := [20]) (by first | trivial | (simp only [xD]; omega) | (simp [xD]; done) | (simp [xD]; omega)) rfl rfl (by decide) 3 (by decide) (hts _ tw842) (fun _ h9 => h9) rfl (v := .ref (ga g [21, 3])) rfl dX7_setLimit_72 ?_
  refine lv_iload_n hx hb dX7_setLimit_75 rfl (lv_at hl 1 rfl) ?_
  refine x_aald hx hb hK hH (id := [21, 3]) (by first | trivial | (simp only [xD]; omega) | (simp [xD]; done) | (simp [xD]; omega)) 7 (L := 3) rfl (by decide) p rfl (by omega) (by decide) (v := .ref (ga g [22, 3, p])) (by show rq _ (if _ then _ else _) = _; rw [if_pos (show p < xLn 3 by show _ < 3; omega)]; rfl) dX7_setLimit_76 ?_
  refine lv_iload_n hx hb dX7_setLimit_77 rfl (lv_at hl 2 rfl) ?_
  refine x_iald hx hb hK hH (id := [22, 3, p]) (by first | trivial | (simp only [xD]; omega) | (simp [xD]; done) | (simp [xD]; omega)) (L := 8) rfl rfl j rfl (by omega) (by decide) dX7_setLimit_78 ?_
  rw [show (I1_ [22, 3, p] j) = (I [22, 3, p] j) from (by first | (rw [hI1_]; simp [up]; done) | (rw [hI1_]; simp [up]; exact rfl) | (rw [hI1_]; simp [up, rfl]; done))]
  refine lv_istore (lv' := [(4, .int (I [22, 3, p] j)), (0, .ref (ga g [20])), (1, .int (nI p)), (2, .int (nI j)), (3, .int v)]) hx hb dX7_setLimit_79 hl (by decide) rfl (fun ls hl => ?_)
  refine lv_aload_n hx hb dX7_setLimit_81 rfl (lv_at hl 1 rfl) ?_
  refine x_get (C := RX7) (T := TX7) (N := 24) (ci := 7) hx hb hts iu7 hown hK hH (id := [20]) (by first | trivial | (simp only [xD]; omega) | (simp [xD]; done) | (simp [xD]; omega)) rfl rfl (by decide) 3 (by decide) (hts _ tw842) (fun _ h9 => h9) rfl (v := .ref (ga g [21, 3])) rfl dX7_setLimit_82 ?_
  refine lv_iload_n hx hb dX7_setLimit_85 rfl (lv_at hl 2 rfl) ?_
  refine x_aald hx hb hK hH (id := [21, 3]) (by first | trivial | (simp only [xD]; omega) | (simp [xD]; done) | (simp [xD]; omega)) 7 (L := 3) rfl (by decide) p rfl (by omega) (by decide) (v := .ref (ga g [22, 3, p])) (by show rq _ (if _ then _ else _) = _; rw [if_pos (show p < xLn 3 by show _ < 3; omega)]; rfl) dX7_setLimit_86 ?_
  refine lv_iload_n hx hb dX7_setLimit_87 rfl (lv_at hl 3 rfl) ?_
  refine lv_iload_n hx hb dX7_setLimit_88 rfl (lv_at hl 4 rfl) ?_
  obtain ⟨I2_, hI2_⟩ : ∃ z, z = up I1_ [22, 3, p] j v := ⟨_, rfl⟩
  refine x_iast hx hb hK hH hS (id := [22, 3, p]) (by first | trivial | (simp only [xD]; omega) | (simp [xD]; done) | (simp [xD]; omega)) (L := 8) rfl j rfl (by omega) (by decide) hI2_.symm dX7_setLimit_89 (fun H locs hH hS => ?_)
  refine lv_iload hx hb dX7_setLimit_90 (lv_at hl 0 rfl) ?_
  exact x_iret hx hb hr hlocks hS dX7_setLimit_92 rfl (by rw [hI2_, hI1_] at hH; exact hH)

set_option maxHeartbeats 1000000 in
set_option maxRecDepth 100000 in
theorem c_X7_steps_p (l : Launch) (g : xG) (h : xS) (I : xI) (n : Nat) (q : Nat) (hq : q ≤ 3) (hz : I [20] 10 = nI q) (x : Int32) (hxb : sIn x 0 (nI q) = false)  : xM l yX7_steps (xws yX7_steps cX7_steps 2 (some FieldType.int)) 3 55 g [.ref (ga g [20]), .int x] (xR g (xD h) I (xFh h) n) (some (.int 0)) (xR g (xD h) (up I [20] 23 1) (xFh h) n) 0 0 := by
  refine xM.of (by decide) (Nat.le_of_ble_eq_true rfl) ?_
  intro P_ e_ s m_ bl_ mt_ cd_ ls hx hb hr hown hlocks hml hnm hE hK hts hH hS hl
  have hl : lv_has ls 2 [(0, .ref (ga g [20])), (1, .int x)] := hl
  refine lv_aload_n hx hb dX7_steps_0 rfl (lv_at hl 0 rfl) ?_
  refine lv_aload_n hx hb dX7_steps_1 rfl (lv_at hl 0 rfl) ?_
  refine lv_iload_n hx hb dX7_steps_2 rfl (lv_at hl 1 rfl) ?_
  refine x_V1 hx hb hml hown hE hS hl.1 cyX7_isPlan tw929 (c_X7_isPlan l g h I n x q (by omega) hz) ⟨Nat.le_of_ble_eq_true rfl, Nat.le_of_ble_eq_true rfl⟩ ⟨Nat.le_of_ble_eq_true rfl, Nat.le_of_ble_eq_true rfl⟩ (x_recv hK hH (id := [20]) (by first | trivial | (simp only [xD]; omega) | (simp [xD]; done) | (simp [xD]; omega)) (ci := 7) rfl (by decide) rfl) hH rfl rfl (Nat.le_of_ble_eq_true rfl) dX7_steps_3 (fun H locs hH hS => ?_)
  refine lv_if_eq (tgt := 13) hx hb dX7_steps_6 (by decide) (fun _ => ?_) (fun q_ => absurd ((b01_eq0 _).mpr hxb) q_)
  refine lv_iconst (v := 1) hx hb dX7_steps_13 (by decide) ?_
  obtain ⟨I1_, hI1_⟩ : ∃ z, z = up I [20] 23 1 := ⟨_, rfl⟩
  refine x_put (C := RX7) (T := TX7) (N := 24) (ci := 7) hx hb hts iu7 tyX7 tyX7_ok nmX7 hown hK hH hS (id := [20]) (by first | trivial | (simp only [xD]; omega) | (simp [xD]; done) | (simp [xD]; omega)) rfl rfl (by decide) 23 (by decide) (hts _ tw862) (fun _ h9 => h9) (Or.inl rfl) (ty := .int) (v := .int 1) (by decide +kernel) rfl rfl (I' := I1_) (F' := (xFh h)) (fun i hi => by rw [hI1_]; exact up_id hi) (fun _ _ => rfl) (fun j9 => by rw [hI1_, up_row]; exact xv_upd (ci := 7) (k := 23) rfl j9) dX7_steps_14 (fun H locs hH hS => ?_)
  refine lv_aload_n hx hb dX7_steps_17 rfl (lv_at hl 0 rfl) ?_
  refine x_get (C := RX7) (T := TX7) (N := 24) (ci := 7) hx hb hts iu7 hown hK hH (id := [20]) (by first | trivial | (simp only [xD]; omega) | (simp [xD]; done) | (simp [xD]; omega)) rfl rfl (by decide) 23 (by decide) (hts _ tw862) (fun _ h9 => h9) rfl (v := .int 1) (congrArg Value.int (by rw [hI1_]; exact up_at)) dX7_steps_18 ?_
  refine lv_if_le (tgt := 28) hx hb dX7_steps_21 (by decide) (fun q_ => absurd q_ (by decide)) (fun _ => ?_)
  refine lv_iconst (v := 0) hx hb dX7_steps_24 (by decide) ?_
  refine lv_goto (tgt := 34) hx hb dX7_steps_25 (by decide) ?_
  exact x_iret hx hb hr hlocks hS dX7_steps_34 rfl (by rw [hI1_] at hH; exact hH)

set_option maxHeartbeats 1000000 in
set_option maxRecDepth 100000 in
theorem c_X7_steps (l : Launch) (g : xG) (h : xS) (I : xI) (n : Nat) (q : Nat) (hq : q ≤ 3) (hz : I [20] 10 = nI q) (p : Nat) (hp : p < q) (k : Nat) (hk : k ≤ 8) (hs : I [24, 8] p = nI k)  : xM l yX7_steps (xws yX7_steps cX7_steps 2 (some FieldType.int)) 3 55 g [.ref (ga g [20]), .int (nI p)] (xR g (xD h) I (xFh h) n) (some (.int (nI k))) (xR g (xD h) (up I [20] 23 0) (xFh h) n) 0 0 := by
  refine xM.of (by decide) (Nat.le_of_ble_eq_true rfl) ?_
  intro P_ e_ s m_ bl_ mt_ cd_ ls hx hb hr hown hlocks hml hnm hE hK hts hH hS hl
  have hl : lv_has ls 2 [(0, .ref (ga g [20])), (1, .int (nI p))] := hl
  refine lv_aload_n hx hb dX7_steps_0 rfl (lv_at hl 0 rfl) ?_
  refine lv_aload_n hx hb dX7_steps_1 rfl (lv_at hl 0 rfl) ?_
  refine lv_iload_n hx hb dX7_steps_2 rfl (lv_at hl 1 rfl) ?_
  refine x_V1 hx hb hml hown hE hS hl.1 cyX7_isPlan tw929 (c_X7_isPlan l g h I n ((nI p)) q (by omega) hz) ⟨Nat.le_of_ble_eq_true rfl, Nat.le_of_ble_eq_true rfl⟩ ⟨Nat.le_of_ble_eq_true rfl, Nat.le_of_ble_eq_true rfl⟩ (x_recv hK hH (id := [20]) (by first | trivial | (simp only [xD]; omega) | (simp [xD]; done) | (simp [xD]; omega)) (ci := 7) rfl (by decide) rfl) hH rfl rfl (Nat.le_of_ble_eq_true rfl) dX7_steps_3 (fun H locs hH hS => ?_)
  refine lv_if_eq (tgt := 13) hx hb dX7_steps_6 (by decide) (fun q_ => absurd q_ (fun z_ => by rw [sIn_nI hp (by omega)] at z_; exact absurd z_ (by decide))) (fun _ => ?_)
  refine lv_iconst (v := 0) hx hb dX7_steps_9 (by decide) ?_
  refine lv_goto (tgt := 14) hx hb dX7_steps_10 (by decide) ?_
  obtain ⟨I1_, hI1_⟩ : ∃ z, z = up I [20] 23 0 := ⟨_, rfl⟩
  refine x_put (C := RX7) (T := TX7) (N := 24) (ci := 7) hx hb hts iu7 tyX7 tyX7_ok nmX7 hown hK hH hS (id := [20]) (by first | trivial | (simp only [xD]; omega) | (simp [xD]; done) | (simp [xD]; omega)) rfl rfl (by decide) 23 (by decide) (hts _ tw862) (fun _ h9 => h9) (Or.inl rfl) (ty := .int) (v := .int 0) (by decide +kernel) rfl rfl (I' := I1_) (F' := (xFh h)) (fun i hi => by rw [hI1_]; exact up_id hi) (fun _ _ => rfl) (fun j9 => by rw [hI1_, up_row]; exact xv_upd (ci := 7) (k := 23) rfl j9) dX7_steps_14 (fun H locs hH hS => ?_)
  refine lv_aload_n hx hb dX7_steps_17 rfl (lv_at hl 0 rfl) ?_
  refine x_get (C := RX7) (T := TX7) (N := 24) (ci := 7) hx hb hts iu7 hown hK hH (id := [20]) (by first | trivial | (simp only [xD]; omega) | (simp [xD]; done) | (simp [xD]; omega)) rfl rfl (by decide) 23 (by decide) (hts _ tw862) (fun _ h9 => h9) rfl (v := .int 0) (congrArg Value.int (by rw [hI1_]; exact up_at)) dX7_steps_18 ?_
  refine lv_if_le (tgt := 28) hx hb dX7_steps_21 (by decide) (fun _ => ?_) (fun q_ => absurd (by decide) q_)
  refine lv_aload_n hx hb dX7_steps_28 rfl (lv_at hl 0 rfl) ?_
  refine x_get (C := RX7) (T := TX7) (N := 24) (ci := 7) hx hb hts iu7 hown hK hH (id := [20]) (by first | trivial | (simp only [xD]; omega) | (simp [xD]; done) | (simp [xD]; omega)) rfl rfl (by decide) 8 (by decide) (hts _ tw847) (fun _ h9 => h9) rfl (v := .ref (ga g [24, 8])) rfl dX7_steps_29 ?_
  refine lv_iload_n hx hb dX7_steps_32 rfl (lv_at hl 1 rfl) ?_
  refine x_iald hx hb hK hH (id := [24, 8]) (by first | trivial | (simp only [xD]; omega) | (simp [xD]; done) | (simp [xD]; omega)) (L := 3) rfl rfl p rfl (by omega) (by decide) dX7_steps_33 ?_
  rw [show (I1_ [24, 8] p) = (nI k) from (by first | (rw [hI1_]; simp [up]; done) | (rw [hI1_]; simp [up]; exact hs) | (rw [hI1_]; simp [up, hs]; done))]
  exact x_iret hx hb hr hlocks hS dX7_steps_34 rfl (by rw [hI1_] at hH; exact hH)

set_option maxHeartbeats 1000000 in
set_option maxRecDepth 100000 in
theorem c_X7_isUsed_p (l : Launch) (g : xG) (h : xS) (I : xI) (n : Nat) (q : Nat) (hq : q ≤ 3) (hz : I [20] 10 = nI q) (x : Int32) (hxb : sIn x 0 (nI q) = false)  : xM l yX7_isUsed (xws yX7_isUsed cX7_isUsed 2 (some FieldType.boolean)) 3 55 g [.ref (ga g [20]), .int x] (xR g (xD h) I (xFh h) n) (some (.int 0)) (xR g (xD h) (up I [20] 23 1) (xFh h) n) 0 0 := by
  refine xM.of (by decide) (Nat.le_of_ble_eq_true rfl) ?_
  intro P_ e_ s m_ bl_ mt_ cd_ ls hx hb hr hown hlocks hml hnm hE hK hts hH hS hl
  have hl : lv_has ls 2 [(0, .ref (ga g [20])), (1, .int x)] := hl
  refine lv_aload_n hx hb dX7_isUsed_0 rfl (lv_at hl 0 rfl) ?_
  refine lv_aload_n hx hb dX7_isUsed_1 rfl (lv_at hl 0 rfl) ?_
  refine lv_iload_n hx hb dX7_isUsed_2 rfl (lv_at hl 1 rfl) ?_
  refine x_V1 hx hb hml hown hE hS hl.1 cyX7_isPlan tw929 (c_X7_isPlan l g h I n x q (by omega) hz) ⟨Nat.le_of_ble_eq_true rfl, Nat.le_of_ble_eq_true rfl⟩ ⟨Nat.le_of_ble_eq_true rfl, Nat.le_of_ble_eq_true rfl⟩ (x_recv hK hH (id := [20]) (by first | trivial | (simp only [xD]; omega) | (simp [xD]; done) | (simp [xD]; omega)) (ci := 7) rfl (by decide) rfl) hH rfl rfl (Nat.le_of_ble_eq_true rfl) dX7_isUsed_3 (fun H locs hH hS => ?_)
  refine lv_if_eq (tgt := 13) hx hb dX7_isUsed_6 (by decide) (fun _ => ?_) (fun q_ => absurd ((b01_eq0 _).mpr hxb) q_)
  refine lv_iconst (v := 1) hx hb dX7_isUsed_13 (by decide) ?_
  obtain ⟨I1_, hI1_⟩ : ∃ z, z = up I [20] 23 1 := ⟨_, rfl⟩
  refine x_put (C := RX7) (T := TX7) (N := 24) (ci := 7) hx hb hts iu7 tyX7 tyX7_ok nmX7 hown hK hH hS (id := [20]) (by first | trivial | (simp only [xD]; omega) | (simp [xD]; done) | (simp [xD]; omega)) rfl rfl (by decide) 23 (by decide) (hts _ tw862) (fun _ h9 => h9) (Or.inl rfl) (ty := .int) (v := .int 1) (by decide +kernel) rfl rfl (I' := I1_) (F' := (xFh h)) (fun i hi => by rw [hI1_]; exact up_id hi) (fun _ _ => rfl) (fun j9 => by rw [hI1_, up_row]; exact xv_upd (ci := 7) (k := 23) rfl j9) dX7_isUsed_14 (fun H locs hH hS => ?_)
  refine lv_aload_n hx hb dX7_isUsed_17 rfl (lv_at hl 0 rfl) ?_
  refine x_get (C := RX7) (T := TX7) (N := 24) (ci := 7) hx hb hts iu7 hown hK hH (id := [20]) (by first | trivial | (simp only [xD]; omega) | (simp [xD]; done) | (simp [xD]; omega)) rfl rfl (by decide) 23 (by decide) (hts _ tw862) (fun _ h9 => h9) rfl (v := .int 1) (congrArg Value.int (by rw [hI1_]; exact up_at)) dX7_isUsed_18 ?_
  refine lv_if_ne (tgt := 37) hx hb dX7_isUsed_21 (by decide) (fun _ => ?_) (fun q_ => absurd q_ (by decide))
  refine lv_iconst (v := 0) hx hb dX7_isUsed_37 (by decide) ?_
  exact x_zret hx hb hr hlocks hS dX7_isUsed_38 rfl rfl (by rw [hI1_] at hH; exact hH)

set_option maxHeartbeats 1000000 in
set_option maxRecDepth 100000 in
theorem c_X7_isUsed (l : Launch) (g : xG) (h : xS) (I : xI) (n : Nat) (q : Nat) (hq : q ≤ 3) (hz : I [20] 10 = nI q) (p : Nat) (hp : p < q) (hv : sBo (I [24, 9] p)) : xM l yX7_isUsed (xws yX7_isUsed cX7_isUsed 2 (some FieldType.boolean)) 3 55 g [.ref (ga g [20]), .int (nI p)] (xR g (xD h) I (xFh h) n) (some (.int (I [24, 9] p))) (xR g (xD h) (up I [20] 23 0) (xFh h) n) 0 0 := by
  refine xM.of (by decide) (Nat.le_of_ble_eq_true rfl) ?_
  intro P_ e_ s m_ bl_ mt_ cd_ ls hx hb hr hown hlocks hml hnm hE hK hts hH hS hl
  have hl : lv_has ls 2 [(0, .ref (ga g [20])), (1, .int (nI p))] := hl
  refine lv_aload_n hx hb dX7_isUsed_0 rfl (lv_at hl 0 rfl) ?_
  refine lv_aload_n hx hb dX7_isUsed_1 rfl (lv_at hl 0 rfl) ?_
  refine lv_iload_n hx hb dX7_isUsed_2 rfl (lv_at hl 1 rfl) ?_
  refine x_V1 hx hb hml hown hE hS hl.1 cyX7_isPlan tw929 (c_X7_isPlan l g h I n ((nI p)) q (by omega) hz) ⟨Nat.le_of_ble_eq_true rfl, Nat.le_of_ble_eq_true rfl⟩ ⟨Nat.le_of_ble_eq_true rfl, Nat.le_of_ble_eq_true rfl⟩ (x_recv hK hH (id := [20]) (by first | trivial | (simp only [xD]; omega) | (simp [xD]; done) | (simp [xD]; omega)) (ci := 7) rfl (by decide) rfl) hH rfl rfl (Nat.le_of_ble_eq_true rfl) dX7_isUsed_3 (fun H locs hH hS => ?_)
  refine lv_if_eq (tgt := 13) hx hb dX7_isUsed_6 (by decide) (fun q_ => absurd q_ (fun z_ => by rw [sIn_nI hp (by omega)] at z_; exact absurd z_ (by decide))) (fun _ => ?_)
  refine lv_iconst (v := 0) hx hb dX7_isUsed_9 (by decide) ?_
  refine lv_goto (tgt := 14) hx hb dX7_isUsed_10 (by decide) ?_
  obtain ⟨I1_, hI1_⟩ : ∃ z, z = up I [20] 23 0 := ⟨_, rfl⟩
  refine x_put (C := RX7) (T := TX7) (N := 24) (ci := 7) hx hb hts iu7 tyX7 tyX7_ok nmX7 hown hK hH hS (id := [20]) (by first | trivial | (simp only [xD]; omega) | (simp [xD]; done) | (simp [xD]; omega)) rfl rfl (by decide) 23 (by decide) (hts _ tw862) (fun _ h9 => h9) (Or.inl rfl) (ty := .int) (v := .int 0) (by decide +kernel) rfl rfl (I' := I1_) (F' := (xFh h)) (fun i hi => by rw [hI1_]; exact up_id hi) (fun _ _ => rfl) (fun j9 => by rw [hI1_, up_row]; exact xv_upd (ci := 7) (k := 23) rfl j9) dX7_isUsed_14 (fun H locs hH hS => ?_)
  refine lv_aload_n hx hb dX7_isUsed_17 rfl (lv_at hl 0 rfl) ?_
  refine x_get (C := RX7) (T := TX7) (N := 24) (ci := 7) hx hb hts iu7 hown hK hH (id := [20]) (by first | trivial | (simp only [xD]; omega) | (simp [xD]; done) | (simp [xD]; omega)) rfl rfl (by decide) 23 (by decide) (hts _ tw862) (fun _ h9 => h9) rfl (v := .int 0) (congrArg Value.int (by rw [hI1_]; exact up_at)) dX7_isUsed_18 ?_
  refine lv_if_ne (tgt := 37) hx hb dX7_isUsed_21 (by decide) (fun q_ => absurd (by decide) q_) (fun _ => ?_)
  refine lv_aload_n hx hb dX7_isUsed_24 rfl (lv_at hl 0 rfl) ?_
  refine x_get (C := RX7) (T := TX7) (N := 24) (ci := 7) hx hb hts iu7 hown hK hH (id := [20]) (by first | trivial | (simp only [xD]; omega) | (simp [xD]; done) | (simp [xD]; omega)) rfl rfl (by decide) 9 (by decide) (hts _ tw848) (fun _ h9 => h9) rfl (v := .ref (ga g [24, 9])) rfl dX7_isUsed_25 ?_
  refine lv_iload_n hx hb dX7_isUsed_28 rfl (lv_at hl 1 rfl) ?_
  refine x_bald hx hb hK hH (id := [24, 9]) (by first | trivial | (simp only [xD]; omega) | (simp [xD]; done) | (simp [xD]; omega)) (L := 3) rfl rfl p rfl (by omega) (by decide) dX7_isUsed_29 ?_
  rw [show (I1_ [24, 9] p) = (I [24, 9] p) from (by first | (rw [hI1_]; simp [up]; done) | (rw [hI1_]; simp [up]; exact rfl) | (rw [hI1_]; simp [up, rfl]; done))]
  refine lv_if_eq (tgt := 37) hx hb dX7_isUsed_30 (by decide) (fun c_30 => ?_) (fun c_30 => ?_)
  · skip
    refine lv_iconst (v := 0) hx hb dX7_isUsed_37 (by decide) ?_
    exact x_zret hx hb hr hlocks hS dX7_isUsed_38 rfl c_30.symm (by rw [hI1_] at hH; exact hH)
  · skip
    refine lv_iconst (v := 1) hx hb dX7_isUsed_33 (by decide) ?_
    refine lv_goto (tgt := 38) hx hb dX7_isUsed_34 (by decide) ?_
    exact x_zret hx hb hr hlocks hS dX7_isUsed_38 rfl (hv.resolve_left c_30).symm (by rw [hI1_] at hH; exact hH)

set_option maxHeartbeats 1000000 in
set_option maxRecDepth 100000 in
theorem c_X7_misses_1 (l : Launch) (g : xG) (h : xS) (I : xI) (n : Nat) (m : Nat) (hm4 : m ≤ 4) (hm : I [20] 20 = nI m) (x : Int32) (hxb : sIn x 0 (nI m) = false)  : xM l yX7_misses (xws yX7_misses cX7_misses 2 (some FieldType.boolean)) 3 55 g [.ref (ga g [20]), .int x] (xR g (xD h) I (xFh h) n) (some (.int 1)) (xR g (xD h) (up I [20] 23 1) (xFh h) n) 0 0 := by
  refine xM.of (by decide) (Nat.le_of_ble_eq_true rfl) ?_
  intro P_ e_ s m_ bl_ mt_ cd_ ls hx hb hr hown hlocks hml hnm hE hK hts hH hS hl
  have hl : lv_has ls 2 [(0, .ref (ga g [20])), (1, .int x)] := hl
  refine lv_aload_n hx hb dX7_misses_0 rfl (lv_at hl 0 rfl) ?_
  refine lv_aload_n hx hb dX7_misses_1 rfl (lv_at hl 0 rfl) ?_
  refine lv_iload_n hx hb dX7_misses_2 rfl (lv_at hl 1 rfl) ?_
  refine x_V1 hx hb hml hown hE hS hl.1 cyX7_isCase tw1016 (c_X7_isCase l g h I n x m (by omega) hm) ⟨Nat.le_of_ble_eq_true rfl, Nat.le_of_ble_eq_true rfl⟩ ⟨Nat.le_of_ble_eq_true rfl, Nat.le_of_ble_eq_true rfl⟩ (x_recv hK hH (id := [20]) (by first | trivial | (simp only [xD]; omega) | (simp [xD]; done) | (simp [xD]; omega)) (ci := 7) rfl (by decide) rfl) hH rfl rfl (Nat.le_of_ble_eq_true rfl) dX7_misses_3 (fun H locs hH hS => ?_)
  refine lv_if_eq (tgt := 13) hx hb dX7_misses_6 (by decide) (fun _ => ?_) (fun q_ => absurd ((b01_eq0 _).mpr hxb) q_)
  refine lv_iconst (v := 1) hx hb dX7_misses_13 (by decide) ?_
  obtain ⟨I1_, hI1_⟩ : ∃ z, z = up I [20] 23 1 := ⟨_, rfl⟩
  refine x_put (C := RX7) (T := TX7) (N := 24) (ci := 7) hx hb hts iu7 tyX7 tyX7_ok nmX7 hown hK hH hS (id := [20]) (by first | trivial | (simp only [xD]; omega) | (simp [xD]; done) | (simp [xD]; omega)) rfl rfl (by decide) 23 (by decide) (hts _ tw862) (fun _ h9 => h9) (Or.inl rfl) (ty := .int) (v := .int 1) (by decide +kernel) rfl rfl (I' := I1_) (F' := (xFh h)) (fun i hi => by rw [hI1_]; exact up_id hi) (fun _ _ => rfl) (fun j9 => by rw [hI1_, up_row]; exact xv_upd (ci := 7) (k := 23) rfl j9) dX7_misses_14 (fun H locs hH hS => ?_)
  refine lv_aload_n hx hb dX7_misses_17 rfl (lv_at hl 0 rfl) ?_
  refine x_get (C := RX7) (T := TX7) (N := 24) (ci := 7) hx hb hts iu7 hown hK hH (id := [20]) (by first | trivial | (simp only [xD]; omega) | (simp [xD]; done) | (simp [xD]; omega)) rfl rfl (by decide) 23 (by decide) (hts _ tw862) (fun _ h9 => h9) rfl (v := .int 1) (congrArg Value.int (by rw [hI1_]; exact up_at)) dX7_misses_18 ?_
  refine lv_if_le (tgt := 28) hx hb dX7_misses_21 (by decide) (fun q_ => absurd q_ (by decide)) (fun _ => ?_)
  refine lv_iconst (v := 1) hx hb dX7_misses_24 (by decide) ?_
  refine lv_goto (tgt := 29) hx hb dX7_misses_25 (by decide) ?_
  exact x_zret hx hb hr hlocks hS dX7_misses_29 rfl rfl (by rw [hI1_] at hH; exact hH)

set_option maxHeartbeats 1000000 in
set_option maxRecDepth 100000 in
theorem c_X7_misses_0 (l : Launch) (g : xG) (h : xS) (I : xI) (n : Nat) (m : Nat) (hm4 : m ≤ 4) (hm : I [20] 20 = nI m) (c : Nat) (hc : c < m)  : xM l yX7_misses (xws yX7_misses cX7_misses 2 (some FieldType.boolean)) 3 55 g [.ref (ga g [20]), .int (nI c)] (xR g (xD h) I (xFh h) n) (some (.int 0)) (xR g (xD h) (up I [20] 23 0) (xFh h) n) 0 0 := by
  refine xM.of (by decide) (Nat.le_of_ble_eq_true rfl) ?_
  intro P_ e_ s m_ bl_ mt_ cd_ ls hx hb hr hown hlocks hml hnm hE hK hts hH hS hl
  have hl : lv_has ls 2 [(0, .ref (ga g [20])), (1, .int (nI c))] := hl
  refine lv_aload_n hx hb dX7_misses_0 rfl (lv_at hl 0 rfl) ?_
  refine lv_aload_n hx hb dX7_misses_1 rfl (lv_at hl 0 rfl) ?_
  refine lv_iload_n hx hb dX7_misses_2 rfl (lv_at hl 1 rfl) ?_
  refine x_V1 hx hb hml hown hE hS hl.1 cyX7_isCase tw1016 (c_X7_isCase l g h I n ((nI c)) m (by omega) hm) ⟨Nat.le_of_ble_eq_true rfl, Nat.le_of_ble_eq_true rfl⟩ ⟨Nat.le_of_ble_eq_true rfl, Nat.le_of_ble_eq_true rfl⟩ (x_recv hK hH (id := [20]) (by first | trivial | (simp only [xD]; omega) | (simp [xD]; done) | (simp [xD]; omega)) (ci := 7) rfl (by decide) rfl) hH rfl rfl (Nat.le_of_ble_eq_true rfl) dX7_misses_3 (fun H locs hH hS => ?_)
  refine lv_if_eq (tgt := 13) hx hb dX7_misses_6 (by decide) (fun q_ => absurd q_ (fun z_ => by rw [sIn_nI hc (by omega)] at z_; exact absurd z_ (by decide))) (fun _ => ?_)
  refine lv_iconst (v := 0) hx hb dX7_misses_9 (by decide) ?_
  refine lv_goto (tgt := 14) hx hb dX7_misses_10 (by decide) ?_
  obtain ⟨I1_, hI1_⟩ : ∃ z, z = up I [20] 23 0 := ⟨_, rfl⟩
  refine x_put (C := RX7) (T := TX7) (N := 24) (ci := 7) hx hb hts iu7 tyX7 tyX7_ok nmX7 hown hK hH hS (id := [20]) (by first | trivial | (simp only [xD]; omega) | (simp [xD]; done) | (simp [xD]; omega)) rfl rfl (by decide) 23 (by decide) (hts _ tw862) (fun _ h9 => h9) (Or.inl rfl) (ty := .int) (v := .int 0) (by decide +kernel) rfl rfl (I' := I1_) (F' := (xFh h)) (fun i hi => by rw [hI1_]; exact up_id hi) (fun _ _ => rfl) (fun j9 => by rw [hI1_, up_row]; exact xv_upd (ci := 7) (k := 23) rfl j9) dX7_misses_14 (fun H locs hH hS => ?_)
  refine lv_aload_n hx hb dX7_misses_17 rfl (lv_at hl 0 rfl) ?_
  refine x_get (C := RX7) (T := TX7) (N := 24) (ci := 7) hx hb hts iu7 hown hK hH (id := [20]) (by first | trivial | (simp only [xD]; omega) | (simp [xD]; done) | (simp [xD]; omega)) rfl rfl (by decide) 23 (by decide) (hts _ tw862) (fun _ h9 => h9) rfl (v := .int 0) (congrArg Value.int (by rw [hI1_]; exact up_at)) dX7_misses_18 ?_
  refine lv_if_le (tgt := 28) hx hb dX7_misses_21 (by decide) (fun _ => ?_) (fun q_ => absurd (by decide) q_)
  refine lv_iconst (v := 0) hx hb dX7_misses_28 (by decide) ?_
  exact x_zret hx hb hr hlocks hS dX7_misses_29 rfl rfl (by rw [hI1_] at hH; exact hH)

set_option maxHeartbeats 1000000 in
set_option maxRecDepth 100000 in
theorem c_X7_lacks_1 (l : Launch) (g : xG) (h : xS) (I : xI) (n : Nat) (m : Nat) (hm4 : m ≤ 4) (hm : I [20] 20 = nI m) (x y : Int32) (hxb : sIn x 0 (nI m) = false)  : xM l yX7_lacks (xws yX7_lacks cX7_lacks 3 (some FieldType.boolean)) 4 77 g [.ref (ga g [20]), .int x, .int y] (xR g (xD h) I (xFh h) n) (some (.int 1)) (xR g (xD h) (up I [20] 23 1) (xFh h) n) 0 0 := by
  refine xM.of (by decide) (Nat.le_of_ble_eq_true rfl) ?_
  intro P_ e_ s m_ bl_ mt_ cd_ ls hx hb hr hown hlocks hml hnm hE hK hts hH hS hl
  have hl : lv_has ls 3 [(0, .ref (ga g [20])), (1, .int x), (2, .int y)] := hl
  refine lv_aload_n hx hb dX7_lacks_0 rfl (lv_at hl 0 rfl) ?_
  refine lv_aload_n hx hb dX7_lacks_1 rfl (lv_at hl 0 rfl) ?_
  refine lv_iload_n hx hb dX7_lacks_2 rfl (lv_at hl 1 rfl) ?_
  refine lv_iload_n hx hb dX7_lacks_3 rfl (lv_at hl 2 rfl) ?_
  refine x_V1 hx hb hml hown hE hS hl.1 cyX7_isStepOf tw1036 (c_X7_isStepOf_0 l g h I n m hm4 hm x y hxb) ⟨Nat.le_of_ble_eq_true rfl, Nat.le_of_ble_eq_true rfl⟩ ⟨Nat.le_of_ble_eq_true rfl, Nat.le_of_ble_eq_true rfl⟩ (x_recv hK hH (id := [20]) (by first | trivial | (simp only [xD]; omega) | (simp [xD]; done) | (simp [xD]; omega)) (ci := 7) rfl (by decide) rfl) hH rfl rfl (Nat.le_of_ble_eq_true rfl) dX7_lacks_4 (fun H locs hH hS => ?_)
  refine lv_if_eq (tgt := 14) hx hb dX7_lacks_7 (by decide) (fun _ => ?_) (fun q_ => absurd (by decide) q_)
  refine lv_iconst (v := 1) hx hb dX7_lacks_14 (by decide) ?_
  obtain ⟨I1_, hI1_⟩ : ∃ z, z = up I [20] 23 1 := ⟨_, rfl⟩
  refine x_put (C := RX7) (T := TX7) (N := 24) (ci := 7) hx hb hts iu7 tyX7 tyX7_ok nmX7 hown hK hH hS (id := [20]) (by first | trivial | (simp only [xD]; omega) | (simp [xD]; done) | (simp [xD]; omega)) rfl rfl (by decide) 23 (by decide) (hts _ tw862) (fun _ h9 => h9) (Or.inl rfl) (ty := .int) (v := .int 1) (by decide +kernel) rfl rfl (I' := I1_) (F' := (xFh h)) (fun i hi => by rw [hI1_]; exact up_id hi) (fun _ _ => rfl) (fun j9 => by rw [hI1_, up_row]; exact xv_upd (ci := 7) (k := 23) rfl j9) dX7_lacks_15 (fun H locs hH hS => ?_)
  refine lv_aload_n hx hb dX7_lacks_18 rfl (lv_at hl 0 rfl) ?_
  refine x_get (C := RX7) (T := TX7) (N := 24) (ci := 7) hx hb hts iu7 hown hK hH (id := [20]) (by first | trivial | (simp only [xD]; omega) | (simp [xD]; done) | (simp [xD]; omega)) rfl rfl (by decide) 23 (by decide) (hts _ tw862) (fun _ h9 => h9) rfl (v := .int 1) (congrArg Value.int (by rw [hI1_]; exact up_at)) dX7_lacks_19 ?_
  refine lv_if_le (tgt := 29) hx hb dX7_lacks_22 (by decide) (fun q_ => absurd q_ (by decide)) (fun _ => ?_)
  refine lv_iconst (v := 1) hx hb dX7_lacks_25 (by decide) ?_
  refine lv_goto (tgt := 30) hx hb dX7_lacks_26 (by decide) ?_
  exact x_zret hx hb hr hlocks hS dX7_lacks_30 rfl rfl (by rw [hI1_] at hH; exact hH)

set_option maxHeartbeats 1000000 in
set_option maxRecDepth 100000 in
theorem c_X7_lacks_2 (l : Launch) (g : xG) (h : xS) (I : xI) (n : Nat) (q : Nat) (hq : q ≤ 3) (hz : I [20] 10 = nI q) (p : Nat) (hp : p < q) (k : Nat) (hk : k ≤ 8) (hs : I [24, 8] p = nI k) (m : Nat) (hm4 : m ≤ 4) (hm : I [20] 20 = nI m) (c : Nat) (hc : c < m) (hpo : I [24, 11] c = nI p) (y : Int32) (hy : sIn y 0 (nI k) = false) : xM l yX7_lacks (xws yX7_lacks cX7_lacks 3 (some FieldType.boolean)) 5 99 g [.ref (ga g [20]), .int (nI c), .int y] (xR g (xD h) I (xFh h) n) (some (.int 1)) (xR g (xD h) (up I [20] 23 1) (xFh h) n) 0 0 := by
  refine xM.of (by decide) (Nat.le_of_ble_eq_true rfl) ?_
  intro P_ e_ s m_ bl_ mt_ cd_ ls hx hb hr hown hlocks hml hnm hE hK hts hH hS hl
  have hl : lv_has ls 3 [(0, .ref (ga g [20])), (1, .int (nI c)), (2, .int y)] := hl
  refine lv_aload_n hx hb dX7_lacks_0 rfl (lv_at hl 0 rfl) ?_
  refine lv_aload_n hx hb dX7_lacks_1 rfl (lv_at hl 0 rfl) ?_
  refine lv_iload_n hx hb dX7_lacks_2 rfl (lv_at hl 1 rfl) ?_
  refine lv_iload_n hx hb dX7_lacks_3 rfl (lv_at hl 2 rfl) ?_
  refine x_V1 hx hb hml hown hE hS hl.1 cyX7_isStepOf tw1036 (c_X7_isStepOf_1 l g h I n q hq hz p hp k hk hs m hm4 hm c hc hpo y) ⟨Nat.le_of_ble_eq_true rfl, Nat.le_of_ble_eq_true rfl⟩ ⟨Nat.le_of_ble_eq_true rfl, Nat.le_of_ble_eq_true rfl⟩ (x_recv hK hH (id := [20]) (by first | trivial | (simp only [xD]; omega) | (simp [xD]; done) | (simp [xD]; omega)) (ci := 7) rfl (by decide) rfl) hH rfl rfl (Nat.le_of_ble_eq_true rfl) dX7_lacks_4 (fun H locs hH hS => ?_)
  refine lv_if_eq (tgt := 14) hx hb dX7_lacks_7 (by decide) (fun _ => ?_) (fun q_ => absurd ((b01_eq0 _).mpr hy) q_)
  refine lv_iconst (v := 1) hx hb dX7_lacks_14 (by decide) ?_
  obtain ⟨I1_, hI1_⟩ : ∃ z, z = up I [20] 23 1 := ⟨_, rfl⟩
  refine x_put (C := RX7) (T := TX7) (N := 24) (ci := 7) hx hb hts iu7 tyX7 tyX7_ok nmX7 hown hK hH hS (id := [20]) (by first | trivial | (simp only [xD]; omega) | (simp [xD]; done) | (simp [xD]; omega)) rfl rfl (by decide) 23 (by decide) (hts _ tw862) (fun _ h9 => h9) (Or.inl rfl) (ty := .int) (v := .int 1) (by decide +kernel) rfl rfl (I' := I1_) (F' := (xFh h)) (fun i hi => by rw [hI1_]; exact up_id hi) (fun _ _ => rfl) (fun j9 => by rw [hI1_, up_row]; exact xv_upd (ci := 7) (k := 23) rfl j9) dX7_lacks_15 (fun H locs hH hS => ?_)
  refine lv_aload_n hx hb dX7_lacks_18 rfl (lv_at hl 0 rfl) ?_
  refine x_get (C := RX7) (T := TX7) (N := 24) (ci := 7) hx hb hts iu7 hown hK hH (id := [20]) (by first | trivial | (simp only [xD]; omega) | (simp [xD]; done) | (simp [xD]; omega)) rfl rfl (by decide) 23 (by decide) (hts _ tw862) (fun _ h9 => h9) rfl (v := .int 1) (congrArg Value.int (by rw [hI1_]; exact up_at)) dX7_lacks_19 ?_
  refine lv_if_le (tgt := 29) hx hb dX7_lacks_22 (by decide) (fun q_ => absurd q_ (by decide)) (fun _ => ?_)
  refine lv_iconst (v := 1) hx hb dX7_lacks_25 (by decide) ?_
  refine lv_goto (tgt := 30) hx hb dX7_lacks_26 (by decide) ?_
  exact x_zret hx hb hr hlocks hS dX7_lacks_30 rfl rfl (by rw [hI1_] at hH; exact hH)

set_option maxHeartbeats 1000000 in
set_option maxRecDepth 100000 in
theorem c_X7_lacks_0 (l : Launch) (g : xG) (h : xS) (I : xI) (n : Nat) (q : Nat) (hq : q ≤ 3) (hz : I [20] 10 = nI q) (p : Nat) (hp : p < q) (k : Nat) (hk : k ≤ 8) (hs : I [24, 8] p = nI k) (m : Nat) (hm4 : m ≤ 4) (hm : I [20] 20 = nI m) (c : Nat) (hc : c < m) (hpo : I [24, 11] c = nI p) (j : Nat) (hj : j < k) : xM l yX7_lacks (xws yX7_lacks cX7_lacks 3 (some FieldType.boolean)) 5 99 g [.ref (ga g [20]), .int (nI c), .int (nI j)] (xR g (xD h) I (xFh h) n) (some (.int 0)) (xR g (xD h) (up I [20] 23 0) (xFh h) n) 0 0 := by
  refine xM.of (by decide) (Nat.le_of_ble_eq_true rfl) ?_
  intro P_ e_ s m_ bl_ mt_ cd_ ls hx hb hr hown hlocks hml hnm hE hK hts hH hS hl
  have hl : lv_has ls 3 [(0, .ref (ga g [20])), (1, .int (nI c)), (2, .int (nI j))] := hl
  refine lv_aload_n hx hb dX7_lacks_0 rfl (lv_at hl 0 rfl) ?_
  refine lv_aload_n hx hb dX7_lacks_1 rfl (lv_at hl 0 rfl) ?_
  refine lv_iload_n hx hb dX7_lacks_2 rfl (lv_at hl 1 rfl) ?_
  refine lv_iload_n hx hb dX7_lacks_3 rfl (lv_at hl 2 rfl) ?_
  refine x_V1 hx hb hml hown hE hS hl.1 cyX7_isStepOf tw1036 (c_X7_isStepOf_1 l g h I n q hq hz p hp k hk hs m hm4 hm c hc hpo (nI j)) ⟨Nat.le_of_ble_eq_true rfl, Nat.le_of_ble_eq_true rfl⟩ ⟨Nat.le_of_ble_eq_true rfl, Nat.le_of_ble_eq_true rfl⟩ (x_recv hK hH (id := [20]) (by first | trivial | (simp only [xD]; omega) | (simp [xD]; done) | (simp [xD]; omega)) (ci := 7) rfl (by decide) rfl) hH rfl rfl (Nat.le_of_ble_eq_true rfl) dX7_lacks_4 (fun H locs hH hS => ?_)
  refine lv_if_eq (tgt := 14) hx hb dX7_lacks_7 (by decide) (fun q_ => absurd q_ (fun z_ => by rw [sIn_nI hj (by omega)] at z_; exact absurd z_ (by decide))) (fun _ => ?_)
  refine lv_iconst (v := 0) hx hb dX7_lacks_10 (by decide) ?_
  refine lv_goto (tgt := 15) hx hb dX7_lacks_11 (by decide) ?_
  obtain ⟨I1_, hI1_⟩ : ∃ z, z = up I [20] 23 0 := ⟨_, rfl⟩
  refine x_put (C := RX7) (T := TX7) (N := 24) (ci := 7) hx hb hts iu7 tyX7 tyX7_ok nmX7 hown hK hH hS (id := [20]) (by first | trivial | (simp only [xD]; omega) | (simp [xD]; done) | (simp [xD]; omega)) rfl rfl (by decide) 23 (by decide) (hts _ tw862) (fun _ h9 => h9) (Or.inl rfl) (ty := .int) (v := .int 0) (by decide +kernel) rfl rfl (I' := I1_) (F' := (xFh h)) (fun i hi => by rw [hI1_]; exact up_id hi) (fun _ _ => rfl) (fun j9 => by rw [hI1_, up_row]; exact xv_upd (ci := 7) (k := 23) rfl j9) dX7_lacks_15 (fun H locs hH hS => ?_)
  refine lv_aload_n hx hb dX7_lacks_18 rfl (lv_at hl 0 rfl) ?_
  refine x_get (C := RX7) (T := TX7) (N := 24) (ci := 7) hx hb hts iu7 hown hK hH (id := [20]) (by first | trivial | (simp only [xD]; omega) | (simp [xD]; done) | (simp [xD]; omega)) rfl rfl (by decide) 23 (by decide) (hts _ tw862) (fun _ h9 => h9) rfl (v := .int 0) (congrArg Value.int (by rw [hI1_]; exact up_at)) dX7_lacks_19 ?_
  refine lv_if_le (tgt := 29) hx hb dX7_lacks_22 (by decide) (fun _ => ?_) (fun q_ => absurd (by decide) q_)
  refine lv_iconst (v := 0) hx hb dX7_lacks_29 (by decide) ?_
  exact x_zret hx hb hr hlocks hS dX7_lacks_30 rfl rfl (by rw [hI1_] at hH; exact hH)

set_option maxHeartbeats 1000000 in
set_option maxRecDepth 100000 in
theorem c_X7_rounds_c (l : Launch) (g : xG) (h : xS) (I : xI) (n : Nat) (m : Nat) (hm4 : m ≤ 4) (hm : I [20] 20 = nI m) (x : Int32) (hxb : sIn x 0 (nI m) = false)  : xM l yX7_rounds (xws yX7_rounds cX7_rounds 2 (some FieldType.int)) 4 76 g [.ref (ga g [20]), .int x] (xR g (xD h) I (xFh h) n) (some (.int 0)) (xR g (xD h) (up I [20] 23 1) (xFh h) n) 0 0 := by
  refine xM.of (by decide) (Nat.le_of_ble_eq_true rfl) ?_
  intro P_ e_ s m_ bl_ mt_ cd_ ls hx hb hr hown hlocks hml hnm hE hK hts hH hS hl
  have hl : lv_has ls 2 [(0, .ref (ga g [20])), (1, .int x)] := hl
  refine lv_aload_n hx hb dX7_rounds_0 rfl (lv_at hl 0 rfl) ?_
  refine lv_iload_n hx hb dX7_rounds_1 rfl (lv_at hl 1 rfl) ?_
  refine x_V1 hx hb hml hown hE hS hl.1 cyX7_misses tw1090 (c_X7_misses_1 l g h I n m hm4 hm x hxb) ⟨Nat.le_of_ble_eq_true rfl, Nat.le_of_ble_eq_true rfl⟩ ⟨Nat.le_of_ble_eq_true rfl, Nat.le_of_ble_eq_true rfl⟩ (x_recv hK hH (id := [20]) (by first | trivial | (simp only [xD]; omega) | (simp [xD]; done) | (simp [xD]; omega)) (ci := 7) rfl (by decide) rfl) hH rfl rfl (Nat.le_of_ble_eq_true rfl) dX7_rounds_2 (fun H locs hH hS => ?_)
  obtain ⟨I1_, hI1_⟩ : ∃ z, z = (up I [20] 23 1) := ⟨_, rfl⟩
  rw [← hI1_] at hH
  refine lv_if_eq (tgt := 12) hx hb dX7_rounds_5 (by decide) (fun q_ => absurd q_ (by decide)) (fun _ => ?_)
  refine lv_iconst (v := 0) hx hb dX7_rounds_8 (by decide) ?_
  refine lv_goto (tgt := 18) hx hb dX7_rounds_9 (by decide) ?_
  exact x_iret hx hb hr hlocks hS dX7_rounds_18 rfl (by rw [hI1_] at hH; exact hH)

set_option maxHeartbeats 1000000 in
set_option maxRecDepth 100000 in
theorem c_X7_rounds (l : Launch) (g : xG) (h : xS) (I : xI) (n : Nat) (m : Nat) (hm4 : m ≤ 4) (hm : I [20] 20 = nI m) (c : Nat) (hc : c < m)  : xM l yX7_rounds (xws yX7_rounds cX7_rounds 2 (some FieldType.int)) 4 76 g [.ref (ga g [20]), .int (nI c)] (xR g (xD h) I (xFh h) n) (some (.int (I [24, 18] c))) (xR g (xD h) (up I [20] 23 0) (xFh h) n) 0 0 := by
  refine xM.of (by decide) (Nat.le_of_ble_eq_true rfl) ?_
  intro P_ e_ s m_ bl_ mt_ cd_ ls hx hb hr hown hlocks hml hnm hE hK hts hH hS hl
  have hl : lv_has ls 2 [(0, .ref (ga g [20])), (1, .int (nI c))] := hl
  refine lv_aload_n hx hb dX7_rounds_0 rfl (lv_at hl 0 rfl) ?_
  refine lv_iload_n hx hb dX7_rounds_1 rfl (lv_at hl 1 rfl) ?_
  refine x_V1 hx hb hml hown hE hS hl.1 cyX7_misses tw1090 (c_X7_misses_0 l g h I n m hm4 hm c hc) ⟨Nat.le_of_ble_eq_true rfl, Nat.le_of_ble_eq_true rfl⟩ ⟨Nat.le_of_ble_eq_true rfl, Nat.le_of_ble_eq_true rfl⟩ (x_recv hK hH (id := [20]) (by first | trivial | (simp only [xD]; omega) | (simp [xD]; done) | (simp [xD]; omega)) (ci := 7) rfl (by decide) rfl) hH rfl rfl (Nat.le_of_ble_eq_true rfl) dX7_rounds_2 (fun H locs hH hS => ?_)
  obtain ⟨I1_, hI1_⟩ : ∃ z, z = (up I [20] 23 0) := ⟨_, rfl⟩
  rw [← hI1_] at hH
  refine lv_if_eq (tgt := 12) hx hb dX7_rounds_5 (by decide) (fun _ => ?_) (fun q_ => absurd (by decide) q_)
  refine lv_aload_n hx hb dX7_rounds_12 rfl (lv_at hl 0 rfl) ?_
  refine x_get (C := RX7) (T := TX7) (N := 24) (ci := 7) hx hb hts iu7 hown hK hH (id := [20]) (by first | trivial | (simp only [xD]; omega) | (simp [xD]; done) | (simp [xD]; omega)) rfl rfl (by decide) 18 (by decide) (hts _ tw857) (fun _ h9 => h9) rfl (v := .ref (ga g [24, 18])) rfl dX7_rounds_13 ?_
  refine lv_iload_n hx hb dX7_rounds_16 rfl (lv_at hl 1 rfl) ?_
  refine x_iald hx hb hK hH (id := [24, 18]) (by first | trivial | (simp only [xD]; omega) | (simp [xD]; done) | (simp [xD]; omega)) (L := 4) rfl rfl c rfl (by omega) (by decide) dX7_rounds_17 ?_
  rw [show (I1_ [24, 18] c) = (I [24, 18] c) from (by first | (rw [hI1_]; simp [up]; done) | (rw [hI1_]; simp [up]; exact rfl) | (rw [hI1_]; simp [up, rfl]; done))]
  exact x_iret hx hb hr hlocks hS dX7_rounds_18 rfl (by rw [hI1_] at hH; exact hH)

set_option maxHeartbeats 1000000 in
set_option maxRecDepth 100000 in
theorem c_X7_days_c (l : Launch) (g : xG) (h : xS) (I : xI) (n : Nat) (m : Nat) (hm4 : m ≤ 4) (hm : I [20] 20 = nI m) (x : Int32) (hxb : sIn x 0 (nI m) = false)  : xM l yX7_days (xws yX7_days cX7_days 2 (some FieldType.int)) 4 76 g [.ref (ga g [20]), .int x] (xR g (xD h) I (xFh h) n) (some (.int 0)) (xR g (xD h) (up I [20] 23 1) (xFh h) n) 0 0 := by
  refine xM.of (by decide) (Nat.le_of_ble_eq_true rfl) ?_
  intro P_ e_ s m_ bl_ mt_ cd_ ls hx hb hr hown hlocks hml hnm hE hK hts hH hS hl
  have hl : lv_has ls 2 [(0, .ref (ga g [20])), (1, .int x)] := hl
  refine lv_aload_n hx hb dX7_days_0 rfl (lv_at hl 0 rfl) ?_
  refine lv_iload_n hx hb dX7_days_1 rfl (lv_at hl 1 rfl) ?_
  refine x_V1 hx hb hml hown hE hS hl.1 cyX7_misses tw1090 (c_X7_misses_1 l g h I n m hm4 hm x hxb) ⟨Nat.le_of_ble_eq_true rfl, Nat.le_of_ble_eq_true rfl⟩ ⟨Nat.le_of_ble_eq_true rfl, Nat.le_of_ble_eq_true rfl⟩ (x_recv hK hH (id := [20]) (by first | trivial | (simp only [xD]; omega) | (simp [xD]; done) | (simp [xD]; omega)) (ci := 7) rfl (by decide) rfl) hH rfl rfl (Nat.le_of_ble_eq_true rfl) dX7_days_2 (fun H locs hH hS => ?_)
  obtain ⟨I1_, hI1_⟩ : ∃ z, z = (up I [20] 23 1) := ⟨_, rfl⟩
  rw [← hI1_] at hH
  refine lv_if_eq (tgt := 12) hx hb dX7_days_5 (by decide) (fun q_ => absurd q_ (by decide)) (fun _ => ?_)
  refine lv_iconst (v := 0) hx hb dX7_days_8 (by decide) ?_
  refine lv_goto (tgt := 18) hx hb dX7_days_9 (by decide) ?_
  exact x_iret hx hb hr hlocks hS dX7_days_18 rfl (by rw [hI1_] at hH; exact hH)

set_option maxHeartbeats 1000000 in
set_option maxRecDepth 100000 in
theorem c_X7_days (l : Launch) (g : xG) (h : xS) (I : xI) (n : Nat) (m : Nat) (hm4 : m ≤ 4) (hm : I [20] 20 = nI m) (c : Nat) (hc : c < m)  : xM l yX7_days (xws yX7_days cX7_days 2 (some FieldType.int)) 4 76 g [.ref (ga g [20]), .int (nI c)] (xR g (xD h) I (xFh h) n) (some (.int (I [24, 17] c))) (xR g (xD h) (up I [20] 23 0) (xFh h) n) 0 0 := by
  refine xM.of (by decide) (Nat.le_of_ble_eq_true rfl) ?_
  intro P_ e_ s m_ bl_ mt_ cd_ ls hx hb hr hown hlocks hml hnm hE hK hts hH hS hl
  have hl : lv_has ls 2 [(0, .ref (ga g [20])), (1, .int (nI c))] := hl
  refine lv_aload_n hx hb dX7_days_0 rfl (lv_at hl 0 rfl) ?_
  refine lv_iload_n hx hb dX7_days_1 rfl (lv_at hl 1 rfl) ?_
  refine x_V1 hx hb hml hown hE hS hl.1 cyX7_misses tw1090 (c_X7_misses_0 l g h I n m hm4 hm c hc) ⟨Nat.le_of_ble_eq_true rfl, Nat.le_of_ble_eq_true rfl⟩ ⟨Nat.le_of_ble_eq_true rfl, Nat.le_of_ble_eq_true rfl⟩ (x_recv hK hH (id := [20]) (by first | trivial | (simp only [xD]; omega) | (simp [xD]; done) | (simp [xD]; omega)) (ci := 7) rfl (by decide) rfl) hH rfl rfl (Nat.le_of_ble_eq_true rfl) dX7_days_2 (fun H locs hH hS => ?_)
  obtain ⟨I1_, hI1_⟩ : ∃ z, z = (up I [20] 23 0) := ⟨_, rfl⟩
  rw [← hI1_] at hH
  refine lv_if_eq (tgt := 12) hx hb dX7_days_5 (by decide) (fun _ => ?_) (fun q_ => absurd (by decide) q_)
  refine lv_aload_n hx hb dX7_days_12 rfl (lv_at hl 0 rfl) ?_
  refine x_get (C := RX7) (T := TX7) (N := 24) (ci := 7) hx hb hts iu7 hown hK hH (id := [20]) (by first | trivial | (simp only [xD]; omega) | (simp [xD]; done) | (simp [xD]; omega)) rfl rfl (by decide) 17 (by decide) (hts _ tw856) (fun _ h9 => h9) rfl (v := .ref (ga g [24, 17])) rfl dX7_days_13 ?_
  refine lv_iload_n hx hb dX7_days_16 rfl (lv_at hl 1 rfl) ?_
  refine x_iald hx hb hK hH (id := [24, 17]) (by first | trivial | (simp only [xD]; omega) | (simp [xD]; done) | (simp [xD]; omega)) (L := 4) rfl rfl c rfl (by omega) (by decide) dX7_days_17 ?_
  rw [show (I1_ [24, 17] c) = (I [24, 17] c) from (by first | (rw [hI1_]; simp [up]; done) | (rw [hI1_]; simp [up]; exact rfl) | (rw [hI1_]; simp [up, rfl]; done))]
  exact x_iret hx hb hr hlocks hS dX7_days_18 rfl (by rw [hI1_] at hH; exact hH)

set_option maxHeartbeats 1000000 in
set_option maxRecDepth 100000 in
theorem c_X7_planOf_c (l : Launch) (g : xG) (h : xS) (I : xI) (n : Nat) (m : Nat) (hm4 : m ≤ 4) (hm : I [20] 20 = nI m) (x : Int32) (hxb : sIn x 0 (nI m) = false)  : xM l yX7_planOf (xws yX7_planOf cX7_planOf 2 (some FieldType.int)) 4 76 g [.ref (ga g [20]), .int x] (xR g (xD h) I (xFh h) n) (some (.int 0)) (xR g (xD h) (up I [20] 23 1) (xFh h) n) 0 0 := by
  refine xM.of (by decide) (Nat.le_of_ble_eq_true rfl) ?_
  intro P_ e_ s m_ bl_ mt_ cd_ ls hx hb hr hown hlocks hml hnm hE hK hts hH hS hl
  have hl : lv_has ls 2 [(0, .ref (ga g [20])), (1, .int x)] := hl
  refine lv_aload_n hx hb dX7_planOf_0 rfl (lv_at hl 0 rfl) ?_
  refine lv_iload_n hx hb dX7_planOf_1 rfl (lv_at hl 1 rfl) ?_
  refine x_V1 hx hb hml hown hE hS hl.1 cyX7_misses tw1090 (c_X7_misses_1 l g h I n m hm4 hm x hxb) ⟨Nat.le_of_ble_eq_true rfl, Nat.le_of_ble_eq_true rfl⟩ ⟨Nat.le_of_ble_eq_true rfl, Nat.le_of_ble_eq_true rfl⟩ (x_recv hK hH (id := [20]) (by first | trivial | (simp only [xD]; omega) | (simp [xD]; done) | (simp [xD]; omega)) (ci := 7) rfl (by decide) rfl) hH rfl rfl (Nat.le_of_ble_eq_true rfl) dX7_planOf_2 (fun H locs hH hS => ?_)
  obtain ⟨I1_, hI1_⟩ : ∃ z, z = (up I [20] 23 1) := ⟨_, rfl⟩
  rw [← hI1_] at hH
  refine lv_if_eq (tgt := 12) hx hb dX7_planOf_5 (by decide) (fun q_ => absurd q_ (by decide)) (fun _ => ?_)
  refine lv_iconst (v := 0) hx hb dX7_planOf_8 (by decide) ?_
  refine lv_goto (tgt := 18) hx hb dX7_planOf_9 (by decide) ?_
  exact x_iret hx hb hr hlocks hS dX7_planOf_18 rfl (by rw [hI1_] at hH; exact hH)

set_option maxHeartbeats 1000000 in
set_option maxRecDepth 100000 in
theorem c_X7_planOf (l : Launch) (g : xG) (h : xS) (I : xI) (n : Nat) (m : Nat) (hm4 : m ≤ 4) (hm : I [20] 20 = nI m) (c : Nat) (hc : c < m)  : xM l yX7_planOf (xws yX7_planOf cX7_planOf 2 (some FieldType.int)) 4 76 g [.ref (ga g [20]), .int (nI c)] (xR g (xD h) I (xFh h) n) (some (.int (I [24, 11] c))) (xR g (xD h) (up I [20] 23 0) (xFh h) n) 0 0 := by
  refine xM.of (by decide) (Nat.le_of_ble_eq_true rfl) ?_
  intro P_ e_ s m_ bl_ mt_ cd_ ls hx hb hr hown hlocks hml hnm hE hK hts hH hS hl
  have hl : lv_has ls 2 [(0, .ref (ga g [20])), (1, .int (nI c))] := hl
  refine lv_aload_n hx hb dX7_planOf_0 rfl (lv_at hl 0 rfl) ?_
  refine lv_iload_n hx hb dX7_planOf_1 rfl (lv_at hl 1 rfl) ?_
  refine x_V1 hx hb hml hown hE hS hl.1 cyX7_misses tw1090 (c_X7_misses_0 l g h I n m hm4 hm c hc) ⟨Nat.le_of_ble_eq_true rfl, Nat.le_of_ble_eq_true rfl⟩ ⟨Nat.le_of_ble_eq_true rfl, Nat.le_of_ble_eq_true rfl⟩ (x_recv hK hH (id := [20]) (by first | trivial | (simp only [xD]; omega) | (simp [xD]; done) | (simp [xD]; omega)) (ci := 7) rfl (by decide) rfl) hH rfl rfl (Nat.le_of_ble_eq_true rfl) dX7_planOf_2 (fun H locs hH hS => ?_)
  obtain ⟨I1_, hI1_⟩ : ∃ z, z = (up I [20] 23 0) := ⟨_, rfl⟩
  rw [← hI1_] at hH
  refine lv_if_eq (tgt := 12) hx hb dX7_planOf_5 (by decide) (fun _ => ?_) (fun q_ => absurd (by decide) q_)
  refine lv_aload_n hx hb dX7_planOf_12 rfl (lv_at hl 0 rfl) ?_
  refine x_get (C := RX7) (T := TX7) (N := 24) (ci := 7) hx hb hts iu7 hown hK hH (id := [20]) (by first | trivial | (simp only [xD]; omega) | (simp [xD]; done) | (simp [xD]; omega)) rfl rfl (by decide) 11 (by decide) (hts _ tw850) (fun _ h9 => h9) rfl (v := .ref (ga g [24, 11])) rfl dX7_planOf_13 ?_
  refine lv_iload_n hx hb dX7_planOf_16 rfl (lv_at hl 1 rfl) ?_
  refine x_iald hx hb hK hH (id := [24, 11]) (by first | trivial | (simp only [xD]; omega) | (simp [xD]; done) | (simp [xD]; omega)) (L := 4) rfl rfl c rfl (by omega) (by decide) dX7_planOf_17 ?_
  rw [show (I1_ [24, 11] c) = (I [24, 11] c) from (by first | (rw [hI1_]; simp [up]; done) | (rw [hI1_]; simp [up]; exact rfl) | (rw [hI1_]; simp [up, rfl]; done))]
  exact x_iret hx hb hr hlocks hS dX7_planOf_18 rfl (by rw [hI1_] at hH; exact hH)

set_option maxHeartbeats 1000000 in
set_option maxRecDepth 100000 in
theorem c_X7_happened_c (l : Launch) (g : xG) (h : xS) (I : xI) (n : Nat) (m : Nat) (hm4 : m ≤ 4) (hm : I [20] 20 = nI m) (x : Int32) (hxb : sIn x 0 (nI m) = false)  : xM l yX7_happened (xws yX7_happened cX7_happened 2 (some FieldType.int)) 4 76 g [.ref (ga g [20]), .int x] (xR g (xD h) I (xFh h) n) (some (.int 0)) (xR g (xD h) (up I [20] 23 1) (xFh h) n) 0 0 := by
  refine xM.of (by decide) (Nat.le_of_ble_eq_true rfl) ?_
  intro P_ e_ s m_ bl_ mt_ cd_ ls hx hb hr hown hlocks hml hnm hE hK hts hH hS hl
  have hl : lv_has ls 2 [(0, .ref (ga g [20])), (1, .int x)] := hl
  refine lv_aload_n hx hb dX7_happened_0 rfl (lv_at hl 0 rfl) ?_
  refine lv_iload_n hx hb dX7_happened_1 rfl (lv_at hl 1 rfl) ?_
  refine x_V1 hx hb hml hown hE hS hl.1 cyX7_misses tw1090 (c_X7_misses_1 l g h I n m hm4 hm x hxb) ⟨Nat.le_of_ble_eq_true rfl, Nat.le_of_ble_eq_true rfl⟩ ⟨Nat.le_of_ble_eq_true rfl, Nat.le_of_ble_eq_true rfl⟩ (x_recv hK hH (id := [20]) (by first | trivial | (simp only [xD]; omega) | (simp [xD]; done) | (simp [xD]; omega)) (ci := 7) rfl (by decide) rfl) hH rfl rfl (Nat.le_of_ble_eq_true rfl) dX7_happened_2 (fun H locs hH hS => ?_)
  obtain ⟨I1_, hI1_⟩ : ∃ z, z = (up I [20] 23 1) := ⟨_, rfl⟩
  rw [← hI1_] at hH
  refine lv_if_eq (tgt := 12) hx hb dX7_happened_5 (by decide) (fun q_ => absurd q_ (by decide)) (fun _ => ?_)
  refine lv_iconst (v := 0) hx hb dX7_happened_8 (by decide) ?_
  refine lv_goto (tgt := 18) hx hb dX7_happened_9 (by decide) ?_
  exact x_iret hx hb hr hlocks hS dX7_happened_18 rfl (by rw [hI1_] at hH; exact hH)

set_option maxHeartbeats 1000000 in
set_option maxRecDepth 100000 in
theorem c_X7_happened (l : Launch) (g : xG) (h : xS) (I : xI) (n : Nat) (m : Nat) (hm4 : m ≤ 4) (hm : I [20] 20 = nI m) (c : Nat) (hc : c < m)  : xM l yX7_happened (xws yX7_happened cX7_happened 2 (some FieldType.int)) 4 76 g [.ref (ga g [20]), .int (nI c)] (xR g (xD h) I (xFh h) n) (some (.int (I [24, 19] c))) (xR g (xD h) (up I [20] 23 0) (xFh h) n) 0 0 := by
  refine xM.of (by decide) (Nat.le_of_ble_eq_true rfl) ?_
  intro P_ e_ s m_ bl_ mt_ cd_ ls hx hb hr hown hlocks hml hnm hE hK hts hH hS hl
  have hl : lv_has ls 2 [(0, .ref (ga g [20])), (1, .int (nI c))] := hl
  refine lv_aload_n hx hb dX7_happened_0 rfl (lv_at hl 0 rfl) ?_
  refine lv_iload_n hx hb dX7_happened_1 rfl (lv_at hl 1 rfl) ?_
  refine x_V1 hx hb hml hown hE hS hl.1 cyX7_misses tw1090 (c_X7_misses_0 l g h I n m hm4 hm c hc) ⟨Nat.le_of_ble_eq_true rfl, Nat.le_of_ble_eq_true rfl⟩ ⟨Nat.le_of_ble_eq_true rfl, Nat.le_of_ble_eq_true rfl⟩ (x_recv hK hH (id := [20]) (by first | trivial | (simp only [xD]; omega) | (simp [xD]; done) | (simp [xD]; omega)) (ci := 7) rfl (by decide) rfl) hH rfl rfl (Nat.le_of_ble_eq_true rfl) dX7_happened_2 (fun H locs hH hS => ?_)
  obtain ⟨I1_, hI1_⟩ : ∃ z, z = (up I [20] 23 0) := ⟨_, rfl⟩
  rw [← hI1_] at hH
  refine lv_if_eq (tgt := 12) hx hb dX7_happened_5 (by decide) (fun _ => ?_) (fun q_ => absurd (by decide) q_)
  refine lv_aload_n hx hb dX7_happened_12 rfl (lv_at hl 0 rfl) ?_
  refine x_get (C := RX7) (T := TX7) (N := 24) (ci := 7) hx hb hts iu7 hown hK hH (id := [20]) (by first | trivial | (simp only [xD]; omega) | (simp [xD]; done) | (simp [xD]; omega)) rfl rfl (by decide) 19 (by decide) (hts _ tw858) (fun _ h9 => h9) rfl (v := .ref (ga g [24, 19])) rfl dX7_happened_13 ?_
  refine lv_iload_n hx hb dX7_happened_16 rfl (lv_at hl 1 rfl) ?_
  refine x_iald hx hb hK hH (id := [24, 19]) (by first | trivial | (simp only [xD]; omega) | (simp [xD]; done) | (simp [xD]; omega)) (L := 4) rfl rfl c rfl (by omega) (by decide) dX7_happened_17 ?_
  rw [show (I1_ [24, 19] c) = (I [24, 19] c) from (by first | (rw [hI1_]; simp [up]; done) | (rw [hI1_]; simp [up]; exact rfl) | (rw [hI1_]; simp [up, rfl]; done))]
  exact x_iret hx hb hr hlocks hS dX7_happened_18 rfl (by rw [hI1_] at hH; exact hH)

set_option maxHeartbeats 1000000 in
set_option maxRecDepth 100000 in
theorem c_X7_isWaiting_c (l : Launch) (g : xG) (h : xS) (I : xI) (n : Nat) (m : Nat) (hm4 : m ≤ 4) (hm : I [20] 20 = nI m) (x : Int32) (hxb : sIn x 0 (nI m) = false)  : xM l yX7_isWaiting (xws yX7_isWaiting cX7_isWaiting 2 (some FieldType.boolean)) 4 76 g [.ref (ga g [20]), .int x] (xR g (xD h) I (xFh h) n) (some (.int 0)) (xR g (xD h) (up I [20] 23 1) (xFh h) n) 0 0 := by
  refine xM.of (by decide) (Nat.le_of_ble_eq_true rfl) ?_
  intro P_ e_ s m_ bl_ mt_ cd_ ls hx hb hr hown hlocks hml hnm hE hK hts hH hS hl
  have hl : lv_has ls 2 [(0, .ref (ga g [20])), (1, .int x)] := hl
  refine lv_aload_n hx hb dX7_isWaiting_0 rfl (lv_at hl 0 rfl) ?_
  refine lv_iload_n hx hb dX7_isWaiting_1 rfl (lv_at hl 1 rfl) ?_
  refine x_V1 hx hb hml hown hE hS hl.1 cyX7_misses tw1090 (c_X7_misses_1 l g h I n m hm4 hm x hxb) ⟨Nat.le_of_ble_eq_true rfl, Nat.le_of_ble_eq_true rfl⟩ ⟨Nat.le_of_ble_eq_true rfl, Nat.le_of_ble_eq_true rfl⟩ (x_recv hK hH (id := [20]) (by first | trivial | (simp only [xD]; omega) | (simp [xD]; done) | (simp [xD]; omega)) (ci := 7) rfl (by decide) rfl) hH rfl rfl (Nat.le_of_ble_eq_true rfl) dX7_isWaiting_2 (fun H locs hH hS => ?_)
  obtain ⟨I1_, hI1_⟩ : ∃ z, z = (up I [20] 23 1) := ⟨_, rfl⟩
  rw [← hI1_] at hH
  refine lv_if_ne (tgt := 21) hx hb dX7_isWaiting_5 (by decide) (fun _ => ?_) (fun q_ => absurd q_ (by decide))
  refine lv_iconst (v := 0) hx hb dX7_isWaiting_21 (by decide) ?_
  exact x_zret hx hb hr hlocks hS dX7_isWaiting_22 rfl rfl (by rw [hI1_] at hH; exact hH)

set_option maxHeartbeats 1000000 in
set_option maxRecDepth 100000 in
theorem c_X7_isWaiting (l : Launch) (g : xG) (h : xS) (I : xI) (n : Nat) (m : Nat) (hm4 : m ≤ 4) (hm : I [20] 20 = nI m) (c : Nat) (hc : c < m) (hv : sBo (I [24, 13] c)) : xM l yX7_isWaiting (xws yX7_isWaiting cX7_isWaiting 2 (some FieldType.boolean)) 4 76 g [.ref (ga g [20]), .int (nI c)] (xR g (xD h) I (xFh h) n) (some (.int (I [24, 13] c))) (xR g (xD h) (up I [20] 23 0) (xFh h) n) 0 0 := by
  refine xM.of (by decide) (Nat.le_of_ble_eq_true rfl) ?_
  intro P_ e_ s m_ bl_ mt_ cd_ ls hx hb hr hown hlocks hml hnm hE hK hts hH hS hl
  have hl : lv_has ls 2 [(0, .ref (ga g [20])), (1, .int (nI c))] := hl
  refine lv_aload_n hx hb dX7_isWaiting_0 rfl (lv_at hl 0 rfl) ?_
  refine lv_iload_n hx hb dX7_isWaiting_1 rfl (lv_at hl 1 rfl) ?_
  refine x_V1 hx hb hml hown hE hS hl.1 cyX7_misses tw1090 (c_X7_misses_0 l g h I n m hm4 hm c hc) ⟨Nat.le_of_ble_eq_true rfl, Nat.le_of_ble_eq_true rfl⟩ ⟨Nat.le_of_ble_eq_true rfl, Nat.le_of_ble_eq_true rfl⟩ (x_recv hK hH (id := [20]) (by first | trivial | (simp only [xD]; omega) | (simp [xD]; done) | (simp [xD]; omega)) (ci := 7) rfl (by decide) rfl) hH rfl rfl (Nat.le_of_ble_eq_true rfl) dX7_isWaiting_2 (fun H locs hH hS => ?_)
  obtain ⟨I1_, hI1_⟩ : ∃ z, z = (up I [20] 23 0) := ⟨_, rfl⟩
  rw [← hI1_] at hH
  refine lv_if_ne (tgt := 21) hx hb dX7_isWaiting_5 (by decide) (fun q_ => absurd (by decide) q_) (fun _ => ?_)
  refine lv_aload_n hx hb dX7_isWaiting_8 rfl (lv_at hl 0 rfl) ?_
  refine x_get (C := RX7) (T := TX7) (N := 24) (ci := 7) hx hb hts iu7 hown hK hH (id := [20]) (by first | trivial | (simp only [xD]; omega) | (simp [xD]; done) | (simp [xD]; omega)) rfl rfl (by decide) 13 (by decide) (hts _ tw852) (fun _ h9 => h9) rfl (v := .ref (ga g [24, 13])) rfl dX7_isWaiting_9 ?_
  refine lv_iload_n hx hb dX7_isWaiting_12 rfl (lv_at hl 1 rfl) ?_
  refine x_bald hx hb hK hH (id := [24, 13]) (by first | trivial | (simp only [xD]; omega) | (simp [xD]; done) | (simp [xD]; omega)) (L := 4) rfl rfl c rfl (by omega) (by decide) dX7_isWaiting_13 ?_
  rw [show (I1_ [24, 13] c) = (I [24, 13] c) from (by first | (rw [hI1_]; simp [up]; done) | (rw [hI1_]; simp [up]; exact rfl) | (rw [hI1_]; simp [up, rfl]; done))]
  refine lv_if_eq (tgt := 21) hx hb dX7_isWaiting_14 (by decide) (fun c_14 => ?_) (fun c_14 => ?_)
  · skip
    refine lv_iconst (v := 0) hx hb dX7_isWaiting_21 (by decide) ?_
    exact x_zret hx hb hr hlocks hS dX7_isWaiting_22 rfl c_14.symm (by rw [hI1_] at hH; exact hH)
  · skip
    refine lv_iconst (v := 1) hx hb dX7_isWaiting_17 (by decide) ?_
    refine lv_goto (tgt := 22) hx hb dX7_isWaiting_18 (by decide) ?_
    exact x_zret hx hb hr hlocks hS dX7_isWaiting_22 rfl (hv.resolve_left c_14).symm (by rw [hI1_] at hH; exact hH)

set_option maxHeartbeats 1000000 in
set_option maxRecDepth 100000 in
theorem c_X7_cases (l : Launch) (g : xG) (h : xS) (I : xI) (n : Nat) (m : Nat) (hm4 : m ≤ 4) (hm : I [20] 20 = nI m)  : xM l yX7_cases (xws yX7_cases cX7_cases 1 (some FieldType.int)) 1 12 g [.ref (ga g [20])] (xR g (xD h) I (xFh h) n) (some (.int (nI m))) (xR g (xD h) (up I [20] 23 0) (xFh h) n) 0 0 := by
  refine xM.of (by decide) (Nat.le_of_ble_eq_true rfl) ?_
  intro P_ e_ s m_ bl_ mt_ cd_ ls hx hb hr hown hlocks hml hnm hE hK hts hH hS hl
  have hl : lv_has ls 1 [(0, .ref (ga g [20]))] := hl
  refine lv_aload_n hx hb dX7_cases_0 rfl (lv_at hl 0 rfl) ?_
  refine lv_iconst (v := 0) hx hb dX7_cases_1 (by decide) ?_
  obtain ⟨I1_, hI1_⟩ : ∃ z, z = up I [20] 23 0 := ⟨_, rfl⟩
  refine x_put (C := RX7) (T := TX7) (N := 24) (ci := 7) hx hb hts iu7 tyX7 tyX7_ok nmX7 hown hK hH hS (id := [20]) (by first | trivial | (simp only [xD]; omega) | (simp [xD]; done) | (simp [xD]; omega)) rfl rfl (by decide) 23 (by decide) (hts _ tw862) (fun _ h9 => h9) (Or.inl rfl) (ty := .int) (v := .int 0) (by decide +kernel) rfl rfl (I' := I1_) (F' := (xFh h)) (fun i hi => by rw [hI1_]; exact up_id hi) (fun _ _ => rfl) (fun j9 => by rw [hI1_, up_row]; exact xv_upd (ci := 7) (k := 23) rfl j9) dX7_cases_2 (fun H locs hH hS => ?_)
  refine lv_aload_n hx hb dX7_cases_5 rfl (lv_at hl 0 rfl) ?_
  refine x_get (C := RX7) (T := TX7) (N := 24) (ci := 7) hx hb hts iu7 hown hK hH (id := [20]) (by first | trivial | (simp only [xD]; omega) | (simp [xD]; done) | (simp [xD]; omega)) rfl rfl (by decide) 20 (by decide) (hts _ tw859) (fun _ h9 => h9) rfl (v := .int (nI m)) (congrArg Value.int (by first | (rw [hI1_]; simp [up]; done) | (rw [hI1_]; simp [up]; exact hm) | (rw [hI1_]; simp [up, hm]; done))) dX7_cases_6 ?_
  exact x_iret hx hb hr hlocks hS dX7_cases_9 rfl (by rw [hI1_] at hH; exact hH)

set_option maxHeartbeats 1000000 in
set_option maxRecDepth 100000 in
theorem c_X7_state_c (l : Launch) (g : xG) (h : xS) (I : xI) (n : Nat) (m : Nat) (hm4 : m ≤ 4) (hm : I [20] 20 = nI m) (x y : Int32) (hxb : sIn x 0 (nI m) = false)  : xM l yX7_state (xws yX7_state cX7_state 3 (some FieldType.char)) 5 99 g [.ref (ga g [20]), .int x, .int y] (xR g (xD h) I (xFh h) n) (some (.int 32)) (xR g (xD h) (up I [20] 23 1) (xFh h) n) 0 0 := by
  refine xM.of (by decide) (Nat.le_of_ble_eq_true rfl) ?_
  intro P_ e_ s m_ bl_ mt_ cd_ ls hx hb hr hown hlocks hml hnm hE hK hts hH hS hl
  have hl : lv_has ls 3 [(0, .ref (ga g [20])), (1, .int x), (2, .int y)] := hl
  refine lv_aload_n hx hb dX7_state_0 rfl (lv_at hl 0 rfl) ?_
  refine lv_iload_n hx hb dX7_state_1 rfl (lv_at hl 1 rfl) ?_
  refine lv_iload_n hx hb dX7_state_2 rfl (lv_at hl 2 rfl) ?_
  refine x_V1 hx hb hml hown hE hS hl.1 cyX7_lacks tw1060 (c_X7_lacks_1 l g h I n m hm4 hm x y hxb) ⟨Nat.le_of_ble_eq_true rfl, Nat.le_of_ble_eq_true rfl⟩ ⟨Nat.le_of_ble_eq_true rfl, Nat.le_of_ble_eq_true rfl⟩ (x_recv hK hH (id := [20]) (by first | trivial | (simp only [xD]; omega) | (simp [xD]; done) | (simp [xD]; omega)) (ci := 7) rfl (by decide) rfl) hH rfl rfl (Nat.le_of_ble_eq_true rfl) dX7_state_3 (fun H locs hH hS => ?_)
  obtain ⟨I1_, hI1_⟩ : ∃ z, z = (up I [20] 23 1) := ⟨_, rfl⟩
  rw [← hI1_] at hH
  refine lv_if_eq (tgt := 14) hx hb dX7_state_6 (by decide) (fun q_ => absurd q_ (by decide)) (fun _ => ?_)
  refine lv_bipush (v := 32) hx hb dX7_state_9 (by decide) ?_
  refine lv_goto (tgt := 22) hx hb dX7_state_11 (by decide) ?_
  exact x_zret hx hb hr hlocks hS dX7_state_22 rfl rfl (by rw [hI1_] at hH; exact hH)

set_option maxHeartbeats 1000000 in
set_option maxRecDepth 100000 in
theorem c_X7_state_s (l : Launch) (g : xG) (h : xS) (I : xI) (n : Nat) (q : Nat) (hq : q ≤ 3) (hz : I [20] 10 = nI q) (p : Nat) (hp : p < q) (k : Nat) (hk : k ≤ 8) (hs : I [24, 8] p = nI k) (m : Nat) (hm4 : m ≤ 4) (hm : I [20] 20 = nI m) (c : Nat) (hc : c < m) (hpo : I [24, 11] c = nI p) (y : Int32) (hy : sIn y 0 (nI k) = false)  : xM l yX7_state (xws yX7_state cX7_state 3 (some FieldType.char)) 6 121 g [.ref (ga g [20]), .int (nI c), .int y] (xR g (xD h) I (xFh h) n) (some (.int 32)) (xR g (xD h) (up I [20] 23 1) (xFh h) n) 0 0 := by
  refine xM.of (by decide) (Nat.le_of_ble_eq_true rfl) ?_
  intro P_ e_ s m_ bl_ mt_ cd_ ls hx hb hr hown hlocks hml hnm hE hK hts hH hS hl
  have hl : lv_has ls 3 [(0, .ref (ga g [20])), (1, .int (nI c)), (2, .int y)] := hl
  refine lv_aload_n hx hb dX7_state_0 rfl (lv_at hl 0 rfl) ?_
  refine lv_iload_n hx hb dX7_state_1 rfl (lv_at hl 1 rfl) ?_
  refine lv_iload_n hx hb dX7_state_2 rfl (lv_at hl 2 rfl) ?_
  refine x_V1 hx hb hml hown hE hS hl.1 cyX7_lacks tw1060 (c_X7_lacks_2 l g h I n q hq hz p hp k hk hs m hm4 hm c hc hpo y hy) ⟨Nat.le_of_ble_eq_true rfl, Nat.le_of_ble_eq_true rfl⟩ ⟨Nat.le_of_ble_eq_true rfl, Nat.le_of_ble_eq_true rfl⟩ (x_recv hK hH (id := [20]) (by first | trivial | (simp only [xD]; omega) | (simp [xD]; done) | (simp [xD]; omega)) (ci := 7) rfl (by decide) rfl) hH rfl rfl (Nat.le_of_ble_eq_true rfl) dX7_state_3 (fun H locs hH hS => ?_)
  obtain ⟨I1_, hI1_⟩ : ∃ z, z = (up I [20] 23 1) := ⟨_, rfl⟩
  rw [← hI1_] at hH
  refine lv_if_eq (tgt := 14) hx hb dX7_state_6 (by decide) (fun q_ => absurd q_ (by decide)) (fun _ => ?_)
  refine lv_bipush (v := 32) hx hb dX7_state_9 (by decide) ?_
  refine lv_goto (tgt := 22) hx hb dX7_state_11 (by decide) ?_
  exact x_zret hx hb hr hlocks hS dX7_state_22 rfl rfl (by rw [hI1_] at hH; exact hH)

set_option maxHeartbeats 1000000 in
set_option maxRecDepth 100000 in
theorem c_X7_state (l : Launch) (g : xG) (h : xS) (I : xI) (n : Nat) (q : Nat) (hq : q ≤ 3) (hz : I [20] 10 = nI q) (p : Nat) (hp : p < q) (k : Nat) (hk : k ≤ 8) (hs : I [24, 8] p = nI k) (m : Nat) (hm4 : m ≤ 4) (hm : I [20] 20 = nI m) (c : Nat) (hc : c < m) (hpo : I [24, 11] c = nI p) (j : Nat) (hj : j < k) (hj8 : j < 8) (hch : narrow .char (.int (I [22, 14, c] j)) = .int (I [22, 14, c] j)) : xM l yX7_state (xws yX7_state cX7_state 3 (some FieldType.char)) 6 121 g [.ref (ga g [20]), .int (nI c), .int (nI j)] (xR g (xD h) I (xFh h) n) (some (.int (I [22, 14, c] j))) (xR g (xD h) (up I [20] 23 0) (xFh h) n) 0 0 := by
  refine xM.of (by decide) (Nat.le_of_ble_eq_true rfl) ?_
  intro P_ e_ s m_ bl_ mt_ cd_ ls hx hb hr hown hlocks hml hnm hE hK hts hH hS hl
  have hl : lv_has ls 3 [(0, .ref (ga g [20])), (1, .int (nI c)), (2, .int (nI j))] := hl
  refine lv_aload_n hx hb dX7_state_0 rfl (lv_at hl 0 rfl) ?_
  refine lv_iload_n hx hb dX7_state_1 rfl (lv_at hl 1 rfl) ?_
  refine lv_iload_n hx hb dX7_state_2 rfl (lv_at hl 2 rfl) ?_
  refine x_V1 hx hb hml hown hE hS hl.1 cyX7_lacks tw1060 (c_X7_lacks_0 l g h I n q hq hz p hp k hk hs m hm4 hm c hc hpo j hj) ⟨Nat.le_of_ble_eq_true rfl, Nat.le_of_ble_eq_true rfl⟩ ⟨Nat.le_of_ble_eq_true rfl, Nat.le_of_ble_eq_true rfl⟩ (x_recv hK hH (id := [20]) (by first | trivial | (simp only [xD]; omega) | (simp [xD]; done) | (simp [xD]; omega)) (ci := 7) rfl (by decide) rfl) hH rfl rfl (Nat.le_of_ble_eq_true rfl) dX7_state_3 (fun H locs hH hS => ?_)
  obtain ⟨I1_, hI1_⟩ : ∃ z, z = (up I [20] 23 0) := ⟨_, rfl⟩
  rw [← hI1_] at hH
  refine lv_if_eq (tgt := 14) hx hb dX7_state_6 (by decide) (fun _ => ?_) (fun q_ => absurd (by decide) q_)
  refine lv_aload_n hx hb dX7_state_14 rfl (lv_at hl 0 rfl) ?_
  refine x_get (C := RX7) (T := TX7) (N := 24) (ci := 7) hx hb hts iu7 hown hK hH (id := [20]) (by first | trivial | (simp only [xD]; omega) | (simp [xD]; done) | (simp [xD]; omega)) rfl rfl (by decide) 14 (by decide) (hts _ tw853) (fun _ h9 => h9) rfl (v := .ref (ga g [21, 14])) rfl dX7_state_15 ?_
  refine lv_iload_n hx hb dX7_state_18 rfl (lv_at hl 1 rfl) ?_
  refine x_aald hx hb hK hH (id := [21, 14]) (by first | trivial | (simp only [xD]; omega) | (simp [xD]; done) | (simp [xD]; omega)) 8 (L := 4) rfl (by decide) c rfl (by omega) (by decide) (v := .ref (ga g [22, 14, c])) (by show rq _ (if _ then _ else _) = _; rw [if_pos (show c < xLn 14 by show _ < 4; omega)]; rfl) dX7_state_19 ?_
  refine lv_iload_n hx hb dX7_state_20 rfl (lv_at hl 2 rfl) ?_
  refine x_cald hx hb hK hH (id := [22, 14, c]) (by first | trivial | (simp only [xD]; omega) | (simp [xD]; done) | (simp [xD]; omega)) (L := 8) rfl rfl j rfl (by omega) (by decide) dX7_state_21 ?_
  rw [show (I1_ [22, 14, c] j) = (I [22, 14, c] j) from (by first | (rw [hI1_]; simp [up]; done) | (rw [hI1_]; simp [up]; exact rfl) | (rw [hI1_]; simp [up, rfl]; done))]
  exact x_zret hx hb hr hlocks hS dX7_state_22 hch rfl (by rw [hI1_] at hH; exact hH)

set_option maxHeartbeats 1000000 in
set_option maxRecDepth 100000 in
theorem c_X7_stateByReplay_c (l : Launch) (g : xG) (h : xS) (I : xI) (n : Nat) (m : Nat) (hm4 : m ≤ 4) (hm : I [20] 20 = nI m) (x y : Int32) (hxb : sIn x 0 (nI m) = false)  : xM l yX7_stateByReplay (xws yX7_stateByReplay cX7_stateByReplay 3 (some FieldType.char)) 6 121 g [.ref (ga g [20]), .int x, .int y] (xR g (xD h) I (xFh h) n) (some (.int 32)) (xR g (xD h) (up I [20] 23 1) (xFh h) n) 0 0 := by
  refine xM.of (by decide) (Nat.le_of_ble_eq_true rfl) ?_
  intro P_ e_ s m_ bl_ mt_ cd_ ls hx hb hr hown hlocks hml hnm hE hK hts hH hS hl
  have hl : lv_has ls 3 [(0, .ref (ga g [20])), (1, .int x), (2, .int y)] := hl
  refine lv_aload_n hx hb dX7_stateByReplay_0 rfl (lv_at hl 0 rfl) ?_
  refine lv_iload_n hx hb dX7_stateByReplay_1 rfl (lv_at hl 1 rfl) ?_
  refine lv_iload_n hx hb dX7_stateByReplay_2 rfl (lv_at hl 2 rfl) ?_
  refine x_V1 hx hb hml hown hE hS hl.1 cyX7_state tw1068 (c_X7_state_c l g h I n m hm4 hm x y hxb) ⟨Nat.le_of_ble_eq_true rfl, Nat.le_of_ble_eq_true rfl⟩ ⟨Nat.le_of_ble_eq_true rfl, Nat.le_of_ble_eq_true rfl⟩ (x_recv hK hH (id := [20]) (by first | trivial | (simp only [xD]; omega) | (simp [xD]; done) | (simp [xD]; omega)) (ci := 7) rfl (by decide) rfl) hH rfl rfl (Nat.le_of_ble_eq_true rfl) dX7_stateByReplay_3 (fun H locs hH hS => ?_)
  exact x_zret hx hb hr hlocks hS dX7_stateByReplay_6 rfl rfl hH

set_option maxHeartbeats 1000000 in
set_option maxRecDepth 100000 in
theorem c_X7_stateByReplay_s (l : Launch) (g : xG) (h : xS) (I : xI) (n : Nat) (q : Nat) (hq : q ≤ 3) (hz : I [20] 10 = nI q) (p : Nat) (hp : p < q) (k : Nat) (hk : k ≤ 8) (hs : I [24, 8] p = nI k) (m : Nat) (hm4 : m ≤ 4) (hm : I [20] 20 = nI m) (c : Nat) (hc : c < m) (hpo : I [24, 11] c = nI p) (y : Int32) (hy : sIn y 0 (nI k) = false)  : xM l yX7_stateByReplay (xws yX7_stateByReplay cX7_stateByReplay 3 (some FieldType.char)) 7 143 g [.ref (ga g [20]), .int (nI c), .int y] (xR g (xD h) I (xFh h) n) (some (.int 32)) (xR g (xD h) (up I [20] 23 1) (xFh h) n) 0 0 := by
  refine xM.of (by decide) (Nat.le_of_ble_eq_true rfl) ?_
  intro P_ e_ s m_ bl_ mt_ cd_ ls hx hb hr hown hlocks hml hnm hE hK hts hH hS hl
  have hl : lv_has ls 3 [(0, .ref (ga g [20])), (1, .int (nI c)), (2, .int y)] := hl
  refine lv_aload_n hx hb dX7_stateByReplay_0 rfl (lv_at hl 0 rfl) ?_
  refine lv_iload_n hx hb dX7_stateByReplay_1 rfl (lv_at hl 1 rfl) ?_
  refine lv_iload_n hx hb dX7_stateByReplay_2 rfl (lv_at hl 2 rfl) ?_
  refine x_V1 hx hb hml hown hE hS hl.1 cyX7_state tw1068 (c_X7_state_s l g h I n q hq hz p hp k hk hs m hm4 hm c hc hpo y hy) ⟨Nat.le_of_ble_eq_true rfl, Nat.le_of_ble_eq_true rfl⟩ ⟨Nat.le_of_ble_eq_true rfl, Nat.le_of_ble_eq_true rfl⟩ (x_recv hK hH (id := [20]) (by first | trivial | (simp only [xD]; omega) | (simp [xD]; done) | (simp [xD]; omega)) (ci := 7) rfl (by decide) rfl) hH rfl rfl (Nat.le_of_ble_eq_true rfl) dX7_stateByReplay_3 (fun H locs hH hS => ?_)
  exact x_zret hx hb hr hlocks hS dX7_stateByReplay_6 rfl rfl hH

set_option maxHeartbeats 1000000 in
set_option maxRecDepth 100000 in
theorem c_X7_stateByReplay (l : Launch) (g : xG) (h : xS) (I : xI) (n : Nat) (q : Nat) (hq : q ≤ 3) (hz : I [20] 10 = nI q) (p : Nat) (hp : p < q) (k : Nat) (hk : k ≤ 8) (hs : I [24, 8] p = nI k) (m : Nat) (hm4 : m ≤ 4) (hm : I [20] 20 = nI m) (c : Nat) (hc : c < m) (hpo : I [24, 11] c = nI p) (j : Nat) (hj : j < k) (hj8 : j < 8) (hch : narrow .char (.int (I [22, 14, c] j)) = .int (I [22, 14, c] j)) : xM l yX7_stateByReplay (xws yX7_stateByReplay cX7_stateByReplay 3 (some FieldType.char)) 7 143 g [.ref (ga g [20]), .int (nI c), .int (nI j)] (xR g (xD h) I (xFh h) n) (some (.int (I [22, 14, c] j))) (xR g (xD h) (up I [20] 23 0) (xFh h) n) 0 0 := by
  refine xM.of (by decide) (Nat.le_of_ble_eq_true rfl) ?_
  intro P_ e_ s m_ bl_ mt_ cd_ ls hx hb hr hown hlocks hml hnm hE hK hts hH hS hl
  have hl : lv_has ls 3 [(0, .ref (ga g [20])), (1, .int (nI c)), (2, .int (nI j))] := hl
  refine lv_aload_n hx hb dX7_stateByReplay_0 rfl (lv_at hl 0 rfl) ?_
  refine lv_iload_n hx hb dX7_stateByReplay_1 rfl (lv_at hl 1 rfl) ?_
  refine lv_iload_n hx hb dX7_stateByReplay_2 rfl (lv_at hl 2 rfl) ?_
  refine x_V1 hx hb hml hown hE hS hl.1 cyX7_state tw1068 (c_X7_state l g h I n q hq hz p hp k hk hs m hm4 hm c hc hpo j hj hj8 hch) ⟨Nat.le_of_ble_eq_true rfl, Nat.le_of_ble_eq_true rfl⟩ ⟨Nat.le_of_ble_eq_true rfl, Nat.le_of_ble_eq_true rfl⟩ (x_recv hK hH (id := [20]) (by first | trivial | (simp only [xD]; omega) | (simp [xD]; done) | (simp [xD]; omega)) (ci := 7) rfl (by decide) rfl) hH rfl rfl (Nat.le_of_ble_eq_true rfl) dX7_stateByReplay_3 (fun H locs hH hS => ?_)
  exact x_zret hx hb hr hlocks hS dX7_stateByReplay_6 hch rfl hH

set_option maxHeartbeats 1000000 in
set_option maxRecDepth 100000 in
theorem c_X7_clock_c (l : Launch) (g : xG) (h : xS) (I : xI) (n : Nat) (m : Nat) (hm4 : m ≤ 4) (hm : I [20] 20 = nI m) (x y : Int32) (hxb : sIn x 0 (nI m) = false)  : xM l yX7_clock (xws yX7_clock cX7_clock 3 (some FieldType.int)) 5 99 g [.ref (ga g [20]), .int x, .int y] (xR g (xD h) I (xFh h) n) (some (.int 0)) (xR g (xD h) (up I [20] 23 1) (xFh h) n) 0 0 := by
  refine xM.of (by decide) (Nat.le_of_ble_eq_true rfl) ?_
  intro P_ e_ s m_ bl_ mt_ cd_ ls hx hb hr hown hlocks hml hnm hE hK hts hH hS hl
  have hl : lv_has ls 3 [(0, .ref (ga g [20])), (1, .int x), (2, .int y)] := hl
  refine lv_aload_n hx hb dX7_clock_0 rfl (lv_at hl 0 rfl) ?_
  refine lv_iload_n hx hb dX7_clock_1 rfl (lv_at hl 1 rfl) ?_
  refine lv_iload_n hx hb dX7_clock_2 rfl (lv_at hl 2 rfl) ?_
  refine x_V1 hx hb hml hown hE hS hl.1 cyX7_lacks tw1060 (c_X7_lacks_1 l g h I n m hm4 hm x y hxb) ⟨Nat.le_of_ble_eq_true rfl, Nat.le_of_ble_eq_true rfl⟩ ⟨Nat.le_of_ble_eq_true rfl, Nat.le_of_ble_eq_true rfl⟩ (x_recv hK hH (id := [20]) (by first | trivial | (simp only [xD]; omega) | (simp [xD]; done) | (simp [xD]; omega)) (ci := 7) rfl (by decide) rfl) hH rfl rfl (Nat.le_of_ble_eq_true rfl) dX7_clock_3 (fun H locs hH hS => ?_)
  obtain ⟨I1_, hI1_⟩ : ∃ z, z = (up I [20] 23 1) := ⟨_, rfl⟩
  rw [← hI1_] at hH
  refine lv_if_eq (tgt := 13) hx hb dX7_clock_6 (by decide) (fun q_ => absurd q_ (by decide)) (fun _ => ?_)
  refine lv_iconst (v := 0) hx hb dX7_clock_9 (by decide) ?_
  refine lv_goto (tgt := 21) hx hb dX7_clock_10 (by decide) ?_
  exact x_iret hx hb hr hlocks hS dX7_clock_21 rfl (by rw [hI1_] at hH; exact hH)

set_option maxHeartbeats 1000000 in
set_option maxRecDepth 100000 in
theorem c_X7_clock_s (l : Launch) (g : xG) (h : xS) (I : xI) (n : Nat) (q : Nat) (hq : q ≤ 3) (hz : I [20] 10 = nI q) (p : Nat) (hp : p < q) (k : Nat) (hk : k ≤ 8) (hs : I [24, 8] p = nI k) (m : Nat) (hm4 : m ≤ 4) (hm : I [20] 20 = nI m) (c : Nat) (hc : c < m) (hpo : I [24, 11] c = nI p) (y : Int32) (hy : sIn y 0 (nI k) = false)  : xM l yX7_clock (xws yX7_clock cX7_clock 3 (some FieldType.int)) 6 121 g [.ref (ga g [20]), .int (nI c), .int y] (xR g (xD h) I (xFh h) n) (some (.int 0)) (xR g (xD h) (up I [20] 23 1) (xFh h) n) 0 0 := by
  refine xM.of (by decide) (Nat.le_of_ble_eq_true rfl) ?_
  intro P_ e_ s m_ bl_ mt_ cd_ ls hx hb hr hown hlocks hml hnm hE hK hts hH hS hl
  have hl : lv_has ls 3 [(0, .ref (ga g [20])), (1, .int (nI c)), (2, .int y)] := hl
  refine lv_aload_n hx hb dX7_clock_0 rfl (lv_at hl 0 rfl) ?_
  refine lv_iload_n hx hb dX7_clock_1 rfl (lv_at hl 1 rfl) ?_
  refine lv_iload_n hx hb dX7_clock_2 rfl (lv_at hl 2 rfl) ?_
  refine x_V1 hx hb hml hown hE hS hl.1 cyX7_lacks tw1060 (c_X7_lacks_2 l g h I n q hq hz p hp k hk hs m hm4 hm c hc hpo y hy) ⟨Nat.le_of_ble_eq_true rfl, Nat.le_of_ble_eq_true rfl⟩ ⟨Nat.le_of_ble_eq_true rfl, Nat.le_of_ble_eq_true rfl⟩ (x_recv hK hH (id := [20]) (by first | trivial | (simp only [xD]; omega) | (simp [xD]; done) | (simp [xD]; omega)) (ci := 7) rfl (by decide) rfl) hH rfl rfl (Nat.le_of_ble_eq_true rfl) dX7_clock_3 (fun H locs hH hS => ?_)
  obtain ⟨I1_, hI1_⟩ : ∃ z, z = (up I [20] 23 1) := ⟨_, rfl⟩
  rw [← hI1_] at hH
  refine lv_if_eq (tgt := 13) hx hb dX7_clock_6 (by decide) (fun q_ => absurd q_ (by decide)) (fun _ => ?_)
  refine lv_iconst (v := 0) hx hb dX7_clock_9 (by decide) ?_
  refine lv_goto (tgt := 21) hx hb dX7_clock_10 (by decide) ?_
  exact x_iret hx hb hr hlocks hS dX7_clock_21 rfl (by rw [hI1_] at hH; exact hH)

set_option maxHeartbeats 1000000 in
set_option maxRecDepth 100000 in
theorem c_X7_clock (l : Launch) (g : xG) (h : xS) (I : xI) (n : Nat) (q : Nat) (hq : q ≤ 3) (hz : I [20] 10 = nI q) (p : Nat) (hp : p < q) (k : Nat) (hk : k ≤ 8) (hs : I [24, 8] p = nI k) (m : Nat) (hm4 : m ≤ 4) (hm : I [20] 20 = nI m) (c : Nat) (hc : c < m) (hpo : I [24, 11] c = nI p) (j : Nat) (hj : j < k) (hj8 : j < 8)  : xM l yX7_clock (xws yX7_clock cX7_clock 3 (some FieldType.int)) 6 121 g [.ref (ga g [20]), .int (nI c), .int (nI j)] (xR g (xD h) I (xFh h) n) (some (.int (I [22, 15, c] j))) (xR g (xD h) (up I [20] 23 0) (xFh h) n) 0 0 := by
  refine xM.of (by decide) (Nat.le_of_ble_eq_true rfl) ?_
  intro P_ e_ s m_ bl_ mt_ cd_ ls hx hb hr hown hlocks hml hnm hE hK hts hH hS hl
  have hl : lv_has ls 3 [(0, .ref (ga g [20])), (1, .int (nI c)), (2, .int (nI j))] := hl
  refine lv_aload_n hx hb dX7_clock_0 rfl (lv_at hl 0 rfl) ?_
  refine lv_iload_n hx hb dX7_clock_1 rfl (lv_at hl 1 rfl) ?_
  refine lv_iload_n hx hb dX7_clock_2 rfl (lv_at hl 2 rfl) ?_
  refine x_V1 hx hb hml hown hE hS hl.1 cyX7_lacks tw1060 (c_X7_lacks_0 l g h I n q hq hz p hp k hk hs m hm4 hm c hc hpo j hj) ⟨Nat.le_of_ble_eq_true rfl, Nat.le_of_ble_eq_true rfl⟩ ⟨Nat.le_of_ble_eq_true rfl, Nat.le_of_ble_eq_true rfl⟩ (x_recv hK hH (id := [20]) (by first | trivial | (simp only [xD]; omega) | (simp [xD]; done) | (simp [xD]; omega)) (ci := 7) rfl (by decide) rfl) hH rfl rfl (Nat.le_of_ble_eq_true rfl) dX7_clock_3 (fun H locs hH hS => ?_)
  obtain ⟨I1_, hI1_⟩ : ∃ z, z = (up I [20] 23 0) := ⟨_, rfl⟩
  rw [← hI1_] at hH
  refine lv_if_eq (tgt := 13) hx hb dX7_clock_6 (by decide) (fun _ => ?_) (fun q_ => absurd (by decide) q_)
  refine lv_aload_n hx hb dX7_clock_13 rfl (lv_at hl 0 rfl) ?_
  refine x_get (C := RX7) (T := TX7) (N := 24) (ci := 7) hx hb hts iu7 hown hK hH (id := [20]) (by first | trivial | (simp only [xD]; omega) | (simp [xD]; done) | (simp [xD]; omega)) rfl rfl (by decide) 15 (by decide) (hts _ tw854) (fun _ h9 => h9) rfl (v := .ref (ga g [21, 15])) rfl dX7_clock_14 ?_
  refine lv_iload_n hx hb dX7_clock_17 rfl (lv_at hl 1 rfl) ?_
  refine x_aald hx hb hK hH (id := [21, 15]) (by first | trivial | (simp only [xD]; omega) | (simp [xD]; done) | (simp [xD]; omega)) 7 (L := 4) rfl (by decide) c rfl (by omega) (by decide) (v := .ref (ga g [22, 15, c])) (by show rq _ (if _ then _ else _) = _; rw [if_pos (show c < xLn 15 by show _ < 4; omega)]; rfl) dX7_clock_18 ?_
  refine lv_iload_n hx hb dX7_clock_19 rfl (lv_at hl 2 rfl) ?_
  refine x_iald hx hb hK hH (id := [22, 15, c]) (by first | trivial | (simp only [xD]; omega) | (simp [xD]; done) | (simp [xD]; omega)) (L := 8) rfl rfl j rfl (by omega) (by decide) dX7_clock_20 ?_
  rw [show (I1_ [22, 15, c] j) = (I [22, 15, c] j) from (by first | (rw [hI1_]; simp [up]; done) | (rw [hI1_]; simp [up]; exact rfl) | (rw [hI1_]; simp [up, rfl]; done))]
  exact x_iret hx hb hr hlocks hS dX7_clock_21 rfl (by rw [hI1_] at hH; exact hH)

set_option maxHeartbeats 1000000 in
set_option maxRecDepth 100000 in
theorem c_X7_clockByReplay_c (l : Launch) (g : xG) (h : xS) (I : xI) (n : Nat) (m : Nat) (hm4 : m ≤ 4) (hm : I [20] 20 = nI m) (x y : Int32) (hxb : sIn x 0 (nI m) = false)  : xM l yX7_clockByReplay (xws yX7_clockByReplay cX7_clockByReplay 3 (some FieldType.int)) 6 121 g [.ref (ga g [20]), .int x, .int y] (xR g (xD h) I (xFh h) n) (some (.int 0)) (xR g (xD h) (up I [20] 23 1) (xFh h) n) 0 0 := by
  refine xM.of (by decide) (Nat.le_of_ble_eq_true rfl) ?_
  intro P_ e_ s m_ bl_ mt_ cd_ ls hx hb hr hown hlocks hml hnm hE hK hts hH hS hl
  have hl : lv_has ls 3 [(0, .ref (ga g [20])), (1, .int x), (2, .int y)] := hl
  refine lv_aload_n hx hb dX7_clockByReplay_0 rfl (lv_at hl 0 rfl) ?_
  refine lv_iload_n hx hb dX7_clockByReplay_1 rfl (lv_at hl 1 rfl) ?_
  refine lv_iload_n hx hb dX7_clockByReplay_2 rfl (lv_at hl 2 rfl) ?_
  refine x_V1 hx hb hml hown hE hS hl.1 cyX7_clock tw1077 (c_X7_clock_c l g h I n m hm4 hm x y hxb) ⟨Nat.le_of_ble_eq_true rfl, Nat.le_of_ble_eq_true rfl⟩ ⟨Nat.le_of_ble_eq_true rfl, Nat.le_of_ble_eq_true rfl⟩ (x_recv hK hH (id := [20]) (by first | trivial | (simp only [xD]; omega) | (simp [xD]; done) | (simp [xD]; omega)) (ci := 7) rfl (by decide) rfl) hH rfl rfl (Nat.le_of_ble_eq_true rfl) dX7_clockByReplay_3 (fun H locs hH hS => ?_)
  exact x_iret hx hb hr hlocks hS dX7_clockByReplay_6 rfl hH

set_option maxHeartbeats 1000000 in
set_option maxRecDepth 100000 in
theorem c_X7_clockByReplay_s (l : Launch) (g : xG) (h : xS) (I : xI) (n : Nat) (q : Nat) (hq : q ≤ 3) (hz : I [20] 10 = nI q) (p : Nat) (hp : p < q) (k : Nat) (hk : k ≤ 8) (hs : I [24, 8] p = nI k) (m : Nat) (hm4 : m ≤ 4) (hm : I [20] 20 = nI m) (c : Nat) (hc : c < m) (hpo : I [24, 11] c = nI p) (y : Int32) (hy : sIn y 0 (nI k) = false)  : xM l yX7_clockByReplay (xws yX7_clockByReplay cX7_clockByReplay 3 (some FieldType.int)) 7 143 g [.ref (ga g [20]), .int (nI c), .int y] (xR g (xD h) I (xFh h) n) (some (.int 0)) (xR g (xD h) (up I [20] 23 1) (xFh h) n) 0 0 := by
  refine xM.of (by decide) (Nat.le_of_ble_eq_true rfl) ?_
  intro P_ e_ s m_ bl_ mt_ cd_ ls hx hb hr hown hlocks hml hnm hE hK hts hH hS hl
  have hl : lv_has ls 3 [(0, .ref (ga g [20])), (1, .int (nI c)), (2, .int y)] := hl
  refine lv_aload_n hx hb dX7_clockByReplay_0 rfl (lv_at hl 0 rfl) ?_
  refine lv_iload_n hx hb dX7_clockByReplay_1 rfl (lv_at hl 1 rfl) ?_
  refine lv_iload_n hx hb dX7_clockByReplay_2 rfl (lv_at hl 2 rfl) ?_
  refine x_V1 hx hb hml hown hE hS hl.1 cyX7_clock tw1077 (c_X7_clock_s l g h I n q hq hz p hp k hk hs m hm4 hm c hc hpo y hy) ⟨Nat.le_of_ble_eq_true rfl, Nat.le_of_ble_eq_true rfl⟩ ⟨Nat.le_of_ble_eq_true rfl, Nat.le_of_ble_eq_true rfl⟩ (x_recv hK hH (id := [20]) (by first | trivial | (simp only [xD]; omega) | (simp [xD]; done) | (simp [xD]; omega)) (ci := 7) rfl (by decide) rfl) hH rfl rfl (Nat.le_of_ble_eq_true rfl) dX7_clockByReplay_3 (fun H locs hH hS => ?_)
  exact x_iret hx hb hr hlocks hS dX7_clockByReplay_6 rfl hH

set_option maxHeartbeats 1000000 in
set_option maxRecDepth 100000 in
theorem c_X7_clockByReplay (l : Launch) (g : xG) (h : xS) (I : xI) (n : Nat) (q : Nat) (hq : q ≤ 3) (hz : I [20] 10 = nI q) (p : Nat) (hp : p < q) (k : Nat) (hk : k ≤ 8) (hs : I [24, 8] p = nI k) (m : Nat) (hm4 : m ≤ 4) (hm : I [20] 20 = nI m) (c : Nat) (hc : c < m) (hpo : I [24, 11] c = nI p) (j : Nat) (hj : j < k) (hj8 : j < 8)  : xM l yX7_clockByReplay (xws yX7_clockByReplay cX7_clockByReplay 3 (some FieldType.int)) 7 143 g [.ref (ga g [20]), .int (nI c), .int (nI j)] (xR g (xD h) I (xFh h) n) (some (.int (I [22, 15, c] j))) (xR g (xD h) (up I [20] 23 0) (xFh h) n) 0 0 := by
  refine xM.of (by decide) (Nat.le_of_ble_eq_true rfl) ?_
  intro P_ e_ s m_ bl_ mt_ cd_ ls hx hb hr hown hlocks hml hnm hE hK hts hH hS hl
  have hl : lv_has ls 3 [(0, .ref (ga g [20])), (1, .int (nI c)), (2, .int (nI j))] := hl
  refine lv_aload_n hx hb dX7_clockByReplay_0 rfl (lv_at hl 0 rfl) ?_
  refine lv_iload_n hx hb dX7_clockByReplay_1 rfl (lv_at hl 1 rfl) ?_
  refine lv_iload_n hx hb dX7_clockByReplay_2 rfl (lv_at hl 2 rfl) ?_
  refine x_V1 hx hb hml hown hE hS hl.1 cyX7_clock tw1077 (c_X7_clock l g h I n q hq hz p hp k hk hs m hm4 hm c hc hpo j hj hj8) ⟨Nat.le_of_ble_eq_true rfl, Nat.le_of_ble_eq_true rfl⟩ ⟨Nat.le_of_ble_eq_true rfl, Nat.le_of_ble_eq_true rfl⟩ (x_recv hK hH (id := [20]) (by first | trivial | (simp only [xD]; omega) | (simp [xD]; done) | (simp [xD]; omega)) (ci := 7) rfl (by decide) rfl) hH rfl rfl (Nat.le_of_ble_eq_true rfl) dX7_clockByReplay_3 (fun H locs hH hS => ?_)
  exact x_iret hx hb hr hlocks hS dX7_clockByReplay_6 rfl hH

set_option maxHeartbeats 1000000 in
set_option maxRecDepth 100000 in
theorem c_X7_count_c (l : Launch) (g : xG) (h : xS) (I : xI) (n : Nat) (m : Nat) (hm4 : m ≤ 4) (hm : I [20] 20 = nI m) (x y : Int32) (hxb : sIn x 0 (nI m) = false)  : xM l yX7_count (xws yX7_count cX7_count 3 (some FieldType.int)) 5 99 g [.ref (ga g [20]), .int x, .int y] (xR g (xD h) I (xFh h) n) (some (.int 0)) (xR g (xD h) (up I [20] 23 1) (xFh h) n) 0 0 := by
  refine xM.of (by decide) (Nat.le_of_ble_eq_true rfl) ?_
  intro P_ e_ s m_ bl_ mt_ cd_ ls hx hb hr hown hlocks hml hnm hE hK hts hH hS hl
  have hl : lv_has ls 3 [(0, .ref (ga g [20])), (1, .int x), (2, .int y)] := hl
  refine lv_aload_n hx hb dX7_count_0 rfl (lv_at hl 0 rfl) ?_
  refine lv_iload_n hx hb dX7_count_1 rfl (lv_at hl 1 rfl) ?_
  refine lv_iload_n hx hb dX7_count_2 rfl (lv_at hl 2 rfl) ?_
  refine x_V1 hx hb hml hown hE hS hl.1 cyX7_lacks tw1060 (c_X7_lacks_1 l g h I n m hm4 hm x y hxb) ⟨Nat.le_of_ble_eq_true rfl, Nat.le_of_ble_eq_true rfl⟩ ⟨Nat.le_of_ble_eq_true rfl, Nat.le_of_ble_eq_true rfl⟩ (x_recv hK hH (id := [20]) (by first | trivial | (simp only [xD]; omega) | (simp [xD]; done) | (simp [xD]; omega)) (ci := 7) rfl (by decide) rfl) hH rfl rfl (Nat.le_of_ble_eq_true rfl) dX7_count_3 (fun H locs hH hS => ?_)
  obtain ⟨I1_, hI1_⟩ : ∃ z, z = (up I [20] 23 1) := ⟨_, rfl⟩
  rw [← hI1_] at hH
  refine lv_if_eq (tgt := 13) hx hb dX7_count_6 (by decide) (fun q_ => absurd q_ (by decide)) (fun _ => ?_)
  refine lv_iconst (v := 0) hx hb dX7_count_9 (by decide) ?_
  refine lv_goto (tgt := 21) hx hb dX7_count_10 (by decide) ?_
  exact x_iret hx hb hr hlocks hS dX7_count_21 rfl (by rw [hI1_] at hH; exact hH)

set_option maxHeartbeats 1000000 in
set_option maxRecDepth 100000 in
theorem c_X7_count_s (l : Launch) (g : xG) (h : xS) (I : xI) (n : Nat) (q : Nat) (hq : q ≤ 3) (hz : I [20] 10 = nI q) (p : Nat) (hp : p < q) (k : Nat) (hk : k ≤ 8) (hs : I [24, 8] p = nI k) (m : Nat) (hm4 : m ≤ 4) (hm : I [20] 20 = nI m) (c : Nat) (hc : c < m) (hpo : I [24, 11] c = nI p) (y : Int32) (hy : sIn y 0 (nI k) = false)  : xM l yX7_count (xws yX7_count cX7_count 3 (some FieldType.int)) 6 121 g [.ref (ga g [20]), .int (nI c), .int y] (xR g (xD h) I (xFh h) n) (some (.int 0)) (xR g (xD h) (up I [20] 23 1) (xFh h) n) 0 0 := by
  refine xM.of (by decide) (Nat.le_of_ble_eq_true rfl) ?_
  intro P_ e_ s m_ bl_ mt_ cd_ ls hx hb hr hown hlocks hml hnm hE hK hts hH hS hl
  have hl : lv_has ls 3 [(0, .ref (ga g [20])), (1, .int (nI c)), (2, .int y)] := hl
  refine lv_aload_n hx hb dX7_count_0 rfl (lv_at hl 0 rfl) ?_
  refine lv_iload_n hx hb dX7_count_1 rfl (lv_at hl 1 rfl) ?_
  refine lv_iload_n hx hb dX7_count_2 rfl (lv_at hl 2 rfl) ?_
  refine x_V1 hx hb hml hown hE hS hl.1 cyX7_lacks tw1060 (c_X7_lacks_2 l g h I n q hq hz p hp k hk hs m hm4 hm c hc hpo y hy) ⟨Nat.le_of_ble_eq_true rfl, Nat.le_of_ble_eq_true rfl⟩ ⟨Nat.le_of_ble_eq_true rfl, Nat.le_of_ble_eq_true rfl⟩ (x_recv hK hH (id := [20]) (by first | trivial | (simp only [xD]; omega) | (simp [xD]; done) | (simp [xD]; omega)) (ci := 7) rfl (by decide) rfl) hH rfl rfl (Nat.le_of_ble_eq_true rfl) dX7_count_3 (fun H locs hH hS => ?_)
  obtain ⟨I1_, hI1_⟩ : ∃ z, z = (up I [20] 23 1) := ⟨_, rfl⟩
  rw [← hI1_] at hH
  refine lv_if_eq (tgt := 13) hx hb dX7_count_6 (by decide) (fun q_ => absurd q_ (by decide)) (fun _ => ?_)
  refine lv_iconst (v := 0) hx hb dX7_count_9 (by decide) ?_
  refine lv_goto (tgt := 21) hx hb dX7_count_10 (by decide) ?_
  exact x_iret hx hb hr hlocks hS dX7_count_21 rfl (by rw [hI1_] at hH; exact hH)

set_option maxHeartbeats 1000000 in
set_option maxRecDepth 100000 in
theorem c_X7_count (l : Launch) (g : xG) (h : xS) (I : xI) (n : Nat) (q : Nat) (hq : q ≤ 3) (hz : I [20] 10 = nI q) (p : Nat) (hp : p < q) (k : Nat) (hk : k ≤ 8) (hs : I [24, 8] p = nI k) (m : Nat) (hm4 : m ≤ 4) (hm : I [20] 20 = nI m) (c : Nat) (hc : c < m) (hpo : I [24, 11] c = nI p) (j : Nat) (hj : j < k) (hj8 : j < 8)  : xM l yX7_count (xws yX7_count cX7_count 3 (some FieldType.int)) 6 121 g [.ref (ga g [20]), .int (nI c), .int (nI j)] (xR g (xD h) I (xFh h) n) (some (.int (I [22, 16, c] j))) (xR g (xD h) (up I [20] 23 0) (xFh h) n) 0 0 := by
  refine xM.of (by decide) (Nat.le_of_ble_eq_true rfl) ?_
  intro P_ e_ s m_ bl_ mt_ cd_ ls hx hb hr hown hlocks hml hnm hE hK hts hH hS hl
  have hl : lv_has ls 3 [(0, .ref (ga g [20])), (1, .int (nI c)), (2, .int (nI j))] := hl
  refine lv_aload_n hx hb dX7_count_0 rfl (lv_at hl 0 rfl) ?_
  refine lv_iload_n hx hb dX7_count_1 rfl (lv_at hl 1 rfl) ?_
  refine lv_iload_n hx hb dX7_count_2 rfl (lv_at hl 2 rfl) ?_
  refine x_V1 hx hb hml hown hE hS hl.1 cyX7_lacks tw1060 (c_X7_lacks_0 l g h I n q hq hz p hp k hk hs m hm4 hm c hc hpo j hj) ⟨Nat.le_of_ble_eq_true rfl, Nat.le_of_ble_eq_true rfl⟩ ⟨Nat.le_of_ble_eq_true rfl, Nat.le_of_ble_eq_true rfl⟩ (x_recv hK hH (id := [20]) (by first | trivial | (simp only [xD]; omega) | (simp [xD]; done) | (simp [xD]; omega)) (ci := 7) rfl (by decide) rfl) hH rfl rfl (Nat.le_of_ble_eq_true rfl) dX7_count_3 (fun H locs hH hS => ?_)
  obtain ⟨I1_, hI1_⟩ : ∃ z, z = (up I [20] 23 0) := ⟨_, rfl⟩
  rw [← hI1_] at hH
  refine lv_if_eq (tgt := 13) hx hb dX7_count_6 (by decide) (fun _ => ?_) (fun q_ => absurd (by decide) q_)
  refine lv_aload_n hx hb dX7_count_13 rfl (lv_at hl 0 rfl) ?_
  refine x_get (C := RX7) (T := TX7) (N := 24) (ci := 7) hx hb hts iu7 hown hK hH (id := [20]) (by first | trivial | (simp only [xD]; omega) | (simp [xD]; done) | (simp [xD]; omega)) rfl rfl (by decide) 16 (by decide) (hts _ tw855) (fun _ h9 => h9) rfl (v := .ref (ga g [21, 16])) rfl dX7_count_14 ?_
  refine lv_iload_n hx hb dX7_count_17 rfl (lv_at hl 1 rfl) ?_
  refine x_aald hx hb hK hH (id := [21, 16]) (by first | trivial | (simp only [xD]; omega) | (simp [xD]; done) | (simp [xD]; omega)) 7 (L := 4) rfl (by decide) c rfl (by omega) (by decide) (v := .ref (ga g [22, 16, c])) (by show rq _ (if _ then _ else _) = _; rw [if_pos (show c < xLn 16 by show _ < 4; omega)]; rfl) dX7_count_18 ?_
  refine lv_iload_n hx hb dX7_count_19 rfl (lv_at hl 2 rfl) ?_
  refine x_iald hx hb hK hH (id := [22, 16, c]) (by first | trivial | (simp only [xD]; omega) | (simp [xD]; done) | (simp [xD]; omega)) (L := 8) rfl rfl j rfl (by omega) (by decide) dX7_count_20 ?_
  rw [show (I1_ [22, 16, c] j) = (I [22, 16, c] j) from (by first | (rw [hI1_]; simp [up]; done) | (rw [hI1_]; simp [up]; exact rfl) | (rw [hI1_]; simp [up, rfl]; done))]
  exact x_iret hx hb hr hlocks hS dX7_count_21 rfl (by rw [hI1_] at hH; exact hH)

set_option maxHeartbeats 1000000 in
set_option maxRecDepth 100000 in
theorem c_X7_datum_c (l : Launch) (g : xG) (h : xS) (I : xI) (n : Nat) (m : Nat) (hm4 : m ≤ 4) (hm : I [20] 20 = nI m) (x y : Int32) (hxb : sIn x 0 (nI m) = false)  : xM l yX7_datum (xws yX7_datum cX7_datum 3 (some FieldType.int)) 3 55 g [.ref (ga g [20]), .int x, .int y] (xR g (xD h) I (xFh h) n) (some (.int 0)) (xR g (xD h) (up I [20] 23 1) (xFh h) n) 0 0 := by
  refine xM.of (by decide) (Nat.le_of_ble_eq_true rfl) ?_
  intro P_ e_ s m_ bl_ mt_ cd_ ls hx hb hr hown hlocks hml hnm hE hK hts hH hS hl
  have hl : lv_has ls 3 [(0, .ref (ga g [20])), (1, .int x), (2, .int y)] := hl
  refine lv_aload_n hx hb dX7_datum_0 rfl (lv_at hl 0 rfl) ?_
  refine lv_aload_n hx hb dX7_datum_1 rfl (lv_at hl 0 rfl) ?_
  refine lv_iload_n hx hb dX7_datum_2 rfl (lv_at hl 1 rfl) ?_
  refine x_V1 hx hb hml hown hE hS hl.1 cyX7_isCase tw1016 (c_X7_isCase l g h I n x m (by omega) hm) ⟨Nat.le_of_ble_eq_true rfl, Nat.le_of_ble_eq_true rfl⟩ ⟨Nat.le_of_ble_eq_true rfl, Nat.le_of_ble_eq_true rfl⟩ (x_recv hK hH (id := [20]) (by first | trivial | (simp only [xD]; omega) | (simp [xD]; done) | (simp [xD]; omega)) (ci := 7) rfl (by decide) rfl) hH rfl rfl (Nat.le_of_ble_eq_true rfl) dX7_datum_3 (fun H locs hH hS => ?_)
  refine lv_if_ne (tgt := 13) hx hb dX7_datum_6 (by decide) (fun q_ => absurd q_ (fun z_ => z_ ((b01_eq0 _).mpr hxb))) (fun _ => ?_)
  refine lv_iconst (v := 1) hx hb dX7_datum_9 (by decide) ?_
  refine lv_goto (tgt := 27) hx hb dX7_datum_10 (by decide) ?_
  obtain ⟨I1_, hI1_⟩ : ∃ z, z = up I [20] 23 1 := ⟨_, rfl⟩
  refine x_put (C := RX7) (T := TX7) (N := 24) (ci := 7) hx hb hts iu7 tyX7 tyX7_ok nmX7 hown hK hH hS (id := [20]) (by first | trivial | (simp only [xD]; omega) | (simp [xD]; done) | (simp [xD]; omega)) rfl rfl (by decide) 23 (by decide) (hts _ tw862) (fun _ h9 => h9) (Or.inl rfl) (ty := .int) (v := .int 1) (by decide +kernel) rfl rfl (I' := I1_) (F' := (xFh h)) (fun i hi => by rw [hI1_]; exact up_id hi) (fun _ _ => rfl) (fun j9 => by rw [hI1_, up_row]; exact xv_upd (ci := 7) (k := 23) rfl j9) dX7_datum_27 (fun H locs hH hS => ?_)
  refine lv_aload_n hx hb dX7_datum_30 rfl (lv_at hl 0 rfl) ?_
  refine x_get (C := RX7) (T := TX7) (N := 24) (ci := 7) hx hb hts iu7 hown hK hH (id := [20]) (by first | trivial | (simp only [xD]; omega) | (simp [xD]; done) | (simp [xD]; omega)) rfl rfl (by decide) 23 (by decide) (hts _ tw862) (fun _ h9 => h9) rfl (v := .int 1) (congrArg Value.int (by rw [hI1_]; exact up_at)) dX7_datum_31 ?_
  refine lv_if_le (tgt := 41) hx hb dX7_datum_34 (by decide) (fun q_ => absurd q_ (by decide)) (fun _ => ?_)
  refine lv_iconst (v := 0) hx hb dX7_datum_37 (by decide) ?_
  refine lv_goto (tgt := 49) hx hb dX7_datum_38 (by decide) ?_
  exact x_iret hx hb hr hlocks hS dX7_datum_49 rfl (by rw [hI1_] at hH; exact hH)

set_option maxHeartbeats 1000000 in
set_option maxRecDepth 100000 in
theorem c_X7_datum_d (l : Launch) (g : xG) (h : xS) (I : xI) (n : Nat) (m : Nat) (hm4 : m ≤ 4) (hm : I [20] 20 = nI m) (c : Nat) (hc : c < m) (y : Int32) (hy : sIn y 0 4 = false)  : xM l yX7_datum (xws yX7_datum cX7_datum 3 (some FieldType.int)) 3 55 g [.ref (ga g [20]), .int (nI c), .int y] (xR g (xD h) I (xFh h) n) (some (.int 0)) (xR g (xD h) (up I [20] 23 2) (xFh h) n) 0 0 := by
  refine xM.of (by decide) (Nat.le_of_ble_eq_true rfl) ?_
  intro P_ e_ s m_ bl_ mt_ cd_ ls hx hb hr hown hlocks hml hnm hE hK hts hH hS hl
  have hl : lv_has ls 3 [(0, .ref (ga g [20])), (1, .int (nI c)), (2, .int y)] := hl
  refine lv_aload_n hx hb dX7_datum_0 rfl (lv_at hl 0 rfl) ?_
  refine lv_aload_n hx hb dX7_datum_1 rfl (lv_at hl 0 rfl) ?_
  refine lv_iload_n hx hb dX7_datum_2 rfl (lv_at hl 1 rfl) ?_
  refine x_V1 hx hb hml hown hE hS hl.1 cyX7_isCase tw1016 (c_X7_isCase l g h I n ((nI c)) m (by omega) hm) ⟨Nat.le_of_ble_eq_true rfl, Nat.le_of_ble_eq_true rfl⟩ ⟨Nat.le_of_ble_eq_true rfl, Nat.le_of_ble_eq_true rfl⟩ (x_recv hK hH (id := [20]) (by first | trivial | (simp only [xD]; omega) | (simp [xD]; done) | (simp [xD]; omega)) (ci := 7) rfl (by decide) rfl) hH rfl rfl (Nat.le_of_ble_eq_true rfl) dX7_datum_3 (fun H locs hH hS => ?_)
  refine lv_if_ne (tgt := 13) hx hb dX7_datum_6 (by decide) (fun _ => ?_) (fun q_ => absurd q_ (fun z_ => by rw [sIn_nI hc (by omega)] at z_; exact absurd z_ (by decide)))
  refine lv_iload_n hx hb dX7_datum_13 rfl (lv_at hl 2 rfl) ?_
  refine lv_iconst (v := 0) hx hb dX7_datum_14 (by decide) ?_
  refine lv_iconst (v := 3) hx hb dX7_datum_15 (by decide) ?_
  refine x_S1 hx hb hml hown hE hS hl.1 cyX7_in tw933 (c_X7_in l g h I n y 0 3) ⟨Nat.le_of_ble_eq_true rfl, Nat.le_of_ble_eq_true rfl⟩ ⟨Nat.le_of_ble_eq_true rfl, Nat.le_of_ble_eq_true rfl⟩ hH rfl rfl (Nat.le_of_ble_eq_true rfl) dX7_datum_16 (fun H locs hH hS => ?_)
  refine lv_if_ne (tgt := 26) hx hb dX7_datum_19 (by decide) (fun q_ => absurd q_ (fun z_ => z_ ((b01_eq0 _).mpr ((mIn_4 y).trans hy)))) (fun _ => ?_)
  refine lv_iconst (v := 2) hx hb dX7_datum_22 (by decide) ?_
  refine lv_goto (tgt := 27) hx hb dX7_datum_23 (by decide) ?_
  obtain ⟨I1_, hI1_⟩ : ∃ z, z = up I [20] 23 2 := ⟨_, rfl⟩
  refine x_put (C := RX7) (T := TX7) (N := 24) (ci := 7) hx hb hts iu7 tyX7 tyX7_ok nmX7 hown hK hH hS (id := [20]) (by first | trivial | (simp only [xD]; omega) | (simp [xD]; done) | (simp [xD]; omega)) rfl rfl (by decide) 23 (by decide) (hts _ tw862) (fun _ h9 => h9) (Or.inl rfl) (ty := .int) (v := .int 2) (by decide +kernel) rfl rfl (I' := I1_) (F' := (xFh h)) (fun i hi => by rw [hI1_]; exact up_id hi) (fun _ _ => rfl) (fun j9 => by rw [hI1_, up_row]; exact xv_upd (ci := 7) (k := 23) rfl j9) dX7_datum_27 (fun H locs hH hS => ?_)
  refine lv_aload_n hx hb dX7_datum_30 rfl (lv_at hl 0 rfl) ?_
  refine x_get (C := RX7) (T := TX7) (N := 24) (ci := 7) hx hb hts iu7 hown hK hH (id := [20]) (by first | trivial | (simp only [xD]; omega) | (simp [xD]; done) | (simp [xD]; omega)) rfl rfl (by decide) 23 (by decide) (hts _ tw862) (fun _ h9 => h9) rfl (v := .int 2) (congrArg Value.int (by rw [hI1_]; exact up_at)) dX7_datum_31 ?_
  refine lv_if_le (tgt := 41) hx hb dX7_datum_34 (by decide) (fun q_ => absurd q_ (by decide)) (fun _ => ?_)
  refine lv_iconst (v := 0) hx hb dX7_datum_37 (by decide) ?_
  refine lv_goto (tgt := 49) hx hb dX7_datum_38 (by decide) ?_
  exact x_iret hx hb hr hlocks hS dX7_datum_49 rfl (by rw [hI1_] at hH; exact hH)

set_option maxHeartbeats 1000000 in
set_option maxRecDepth 100000 in
theorem c_X7_datum (l : Launch) (g : xG) (h : xS) (I : xI) (n : Nat) (m : Nat) (hm4 : m ≤ 4) (hm : I [20] 20 = nI m) (c : Nat) (hc : c < m) (j : Nat) (hj : j < 4)  : xM l yX7_datum (xws yX7_datum cX7_datum 3 (some FieldType.int)) 3 55 g [.ref (ga g [20]), .int (nI c), .int (nI j)] (xR g (xD h) I (xFh h) n) (some (.int (I [22, 12, c] j))) (xR g (xD h) (up I [20] 23 0) (xFh h) n) 0 0 := by
  refine xM.of (by decide) (Nat.le_of_ble_eq_true rfl) ?_
  intro P_ e_ s m_ bl_ mt_ cd_ ls hx hb hr hown hlocks hml hnm hE hK hts hH hS hl
  have hl : lv_has ls 3 [(0, .ref (ga g [20])), (1, .int (nI c)), (2, .int (nI j))] := hl
  refine lv_aload_n hx hb dX7_datum_0 rfl (lv_at hl 0 rfl) ?_
  refine lv_aload_n hx hb dX7_datum_1 rfl (lv_at hl 0 rfl) ?_
  refine lv_iload_n hx hb dX7_datum_2 rfl (lv_at hl 1 rfl) ?_
  refine x_V1 hx hb hml hown hE hS hl.1 cyX7_isCase tw1016 (c_X7_isCase l g h I n ((nI c)) m (by omega) hm) ⟨Nat.le_of_ble_eq_true rfl, Nat.le_of_ble_eq_true rfl⟩ ⟨Nat.le_of_ble_eq_true rfl, Nat.le_of_ble_eq_true rfl⟩ (x_recv hK hH (id := [20]) (by first | trivial | (simp only [xD]; omega) | (simp [xD]; done) | (simp [xD]; omega)) (ci := 7) rfl (by decide) rfl) hH rfl rfl (Nat.le_of_ble_eq_true rfl) dX7_datum_3 (fun H locs hH hS => ?_)
  refine lv_if_ne (tgt := 13) hx hb dX7_datum_6 (by decide) (fun _ => ?_) (fun q_ => absurd q_ (fun z_ => by rw [sIn_nI hc (by omega)] at z_; exact absurd z_ (by decide)))
  refine lv_iload_n hx hb dX7_datum_13 rfl (lv_at hl 2 rfl) ?_
  refine lv_iconst (v := 0) hx hb dX7_datum_14 (by decide) ?_
  refine lv_iconst (v := 3) hx hb dX7_datum_15 (by decide) ?_
  refine x_S1 hx hb hml hown hE hS hl.1 cyX7_in tw933 (c_X7_in l g h I n ((nI j)) 0 3) ⟨Nat.le_of_ble_eq_true rfl, Nat.le_of_ble_eq_true rfl⟩ ⟨Nat.le_of_ble_eq_true rfl, Nat.le_of_ble_eq_true rfl⟩ hH rfl rfl (Nat.le_of_ble_eq_true rfl) dX7_datum_16 (fun H locs hH hS => ?_)
  refine lv_if_ne (tgt := 26) hx hb dX7_datum_19 (by decide) (fun _ => ?_) (fun q_ => absurd q_ (fun z_ => by rw [mIn_4, show sIn (nI j) 0 4 = true from sIn_nI (N := 4) hj (by omega)] at z_; exact absurd z_ (by decide)))
  refine lv_iconst (v := 0) hx hb dX7_datum_26 (by decide) ?_
  obtain ⟨I1_, hI1_⟩ : ∃ z, z = up I [20] 23 0 := ⟨_, rfl⟩
  refine x_put (C := RX7) (T := TX7) (N := 24) (ci := 7) hx hb hts iu7 tyX7 tyX7_ok nmX7 hown hK hH hS (id := [20]) (by first | trivial | (simp only [xD]; omega) | (simp [xD]; done) | (simp [xD]; omega)) rfl rfl (by decide) 23 (by decide) (hts _ tw862) (fun _ h9 => h9) (Or.inl rfl) (ty := .int) (v := .int 0) (by decide +kernel) rfl rfl (I' := I1_) (F' := (xFh h)) (fun i hi => by rw [hI1_]; exact up_id hi) (fun _ _ => rfl) (fun j9 => by rw [hI1_, up_row]; exact xv_upd (ci := 7) (k := 23) rfl j9) dX7_datum_27 (fun H locs hH hS => ?_)
  refine lv_aload_n hx hb dX7_datum_30 rfl (lv_at hl 0 rfl) ?_
  refine x_get (C := RX7) (T := TX7) (N := 24) (ci := 7) hx hb hts iu7 hown hK hH (id := [20]) (by first | trivial | (simp only [xD]; omega) | (simp [xD]; done) | (simp [xD]; omega)) rfl rfl (by decide) 23 (by decide) (hts _ tw862) (fun _ h9 => h9) rfl (v := .int 0) (congrArg Value.int (by rw [hI1_]; exact up_at)) dX7_datum_31 ?_
  refine lv_if_le (tgt := 41) hx hb dX7_datum_34 (by decide) (fun _ => ?_) (fun q_ => absurd (by decide) q_)
  refine lv_aload_n hx hb dX7_datum_41 rfl (lv_at hl 0 rfl) ?_
  refine x_get (C := RX7) (T := TX7) (N := 24) (ci := 7) hx hb hts iu7 hown hK hH (id := [20]) (by first | trivial | (simp only [xD]; omega) | (simp [xD]; done) | (simp [xD]; omega)) rfl rfl (by decide) 12 (by decide) (hts _ tw851) (fun _ h9 => h9) rfl (v := .ref (ga g [21, 12])) rfl dX7_datum_42 ?_
  refine lv_iload_n hx hb dX7_datum_45 rfl (lv_at hl 1 rfl) ?_
  refine x_aald hx hb hK hH (id := [21, 12]) (by first | trivial | (simp only [xD]; omega) | (simp [xD]; done) | (simp [xD]; omega)) 7 (L := 4) rfl (by decide) c rfl (by omega) (by decide) (v := .ref (ga g [22, 12, c])) (by show rq _ (if _ then _ else _) = _; rw [if_pos (show c < xLn 12 by show _ < 4; omega)]; rfl) dX7_datum_46 ?_
  refine lv_iload_n hx hb dX7_datum_47 rfl (lv_at hl 2 rfl) ?_
  refine x_iald hx hb hK hH (id := [22, 12, c]) (by first | trivial | (simp only [xD]; omega) | (simp [xD]; done) | (simp [xD]; omega)) (L := 4) rfl rfl j rfl (by omega) (by decide) dX7_datum_48 ?_
  rw [show (I1_ [22, 12, c] j) = (I [22, 12, c] j) from (by first | (rw [hI1_]; simp [up]; done) | (rw [hI1_]; simp [up]; exact rfl) | (rw [hI1_]; simp [up, rfl]; done))]
  exact x_iret hx hb hr hlocks hS dX7_datum_49 rfl (by rw [hI1_] at hH; exact hH)
