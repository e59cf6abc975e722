/-! CONTRACTS: the model, plans -/
theorem up_ne2 {α : Type} (f : List Nat → Nat → α) {i j : List Nat} {k q : Nat} (v : α) (h : j ≠ i ∨ q ≠ k) : up f i k v j q = f j q := if_neg (fun z => h.elim (fun e => e z.1) (fun e => e z.2))
set_option maxHeartbeats 1000000 in
set_option maxRecDepth 100000 in
theorem c_X7_addPlan_1 (l : Launch) (g : xG) (h : xS) (I : xI) (n : Nat) (hz : I [20] 10 = nI 3) : xM l yX7_addPlan (xws yX7_addPlan cX7_addPlan 1 (some FieldType.int)) 2 33 g [.ref (ga g [20])] (xR g (xD h) I (xFh h) n) (some (.int 0)) (xR g (xD h) (up I [20] 23 1) (xFh h) n) 0 0 := by
  refine xM.of (by decide) (Nat.le_of_ble_eq_true rfl) ?_
  intro P_ e_ s m_ bl_ mt_ cd_ ls hx hb hr hown hlocks hml hnm hE hK hts hH hS hl
  have hl : lv_has ls 1 [(0, .ref (ga g [20]))] := hl
  refine lv_aload_n hx hb dX7_addPlan_0 rfl (lv_at hl 0 rfl) ?_
  refine x_get (C := RX7) (T := TX7) (N := 24) (ci := 7) hx hb hts iu7 hown hK hH (id := [20]) (by first | trivial | (simp only [xD]; omega) | (simp [xD]; done) | (simp [xD]; omega)) rfl rfl (by decide) 10 (by decide) (hts _ tw849) (fun _ h9 => h9) rfl (v := .int (nI 3)) (congrArg Value.int (hz)) dX7_addPlan_1 ?_
  refine lv_iconst (v := 3) hx hb dX7_addPlan_4 (by decide) ?_
  refine lv_icmp_ne (tgt := 14) hx hb dX7_addPlan_5 (by decide) (fun q_ => absurd (by decide) q_) (fun _ => ?_)
  refine lv_aload_n hx hb dX7_addPlan_8 rfl (lv_at hl 0 rfl) ?_
  refine lv_iconst (v := 1) hx hb dX7_addPlan_9 (by decide) ?_
  refine x_V1 hx hb hml hown hE hS hl.1 cyX7_raises tw921 (c_X7_raises l g h I n 1) ⟨Nat.le_of_ble_eq_true rfl, Nat.le_of_ble_eq_true rfl⟩ ⟨Nat.le_of_ble_eq_true rfl, Nat.le_of_ble_eq_true rfl⟩ (x_recv hK hH (id := [20]) (by first | trivial | (simp only [xD]; omega) | (simp [xD]; done) | (simp [xD]; omega)) (ci := 7) rfl (by decide) rfl) hH rfl rfl (Nat.le_of_ble_eq_true rfl) dX7_addPlan_10 (fun H locs hH hS => ?_)
  exact x_iret hx hb hr hlocks hS dX7_addPlan_13 rfl hH

set_option maxHeartbeats 1000000 in
set_option maxRecDepth 100000 in
theorem c_X7_addPlan (l : Launch) (g : xG) (h : xS) (I : xI) (n : Nat) (q : Nat) (hq : q < 3) (hz : I [20] 10 = nI q) : xM l yX7_addPlan (xws yX7_addPlan cX7_addPlan 1 (some FieldType.int)) 1 12 g [.ref (ga g [20])] (xR g (xD h) I (xFh h) n) (some (.int (nI q))) (xR g (xD h) (up (up I [20] 23 0) [20] 10 (nI (q + 1))) (xFh h) n) 0 0 := by
  refine xM.of (by decide) (Nat.le_of_ble_eq_true rfl) ?_
  intro P_ e_ s m_ bl_ mt_ cd_ ls hx hb hr hown hlocks hml hnm hE hK hts hH hS hl
  have hl : lv_has ls 1 [(0, .ref (ga g [20]))] := hl
  refine lv_aload_n hx hb dX7_addPlan_0 rfl (lv_at hl 0 rfl) ?_
  refine x_get (C := RX7) (T := TX7) (N := 24) (ci := 7) hx hb hts iu7 hown hK hH (id := [20]) (by first | trivial | (simp only [xD]; omega) | (simp [xD]; done) | (simp [xD]; omega)) rfl rfl (by decide) 10 (by decide) (hts _ tw849) (fun _ h9 => h9) rfl (v := .int (nI q)) (congrArg Value.int (hz)) dX7_addPlan_1 ?_
  refine lv_iconst (v := 3) hx hb dX7_addPlan_4 (by decide) ?_
  refine lv_icmp_ne (tgt := 14) hx hb dX7_addPlan_5 (by decide) (fun _ => ?_) (fun q_ => absurd q_ (fun z_ => absurd ((nI_eq (a := q) (b := 3) (by omega) (by omega)).mp z_) (by omega)))
  refine lv_aload_n hx hb dX7_addPlan_14 rfl (lv_at hl 0 rfl) ?_
  refine lv_iconst (v := 0) hx hb dX7_addPlan_15 (by decide) ?_
  obtain ⟨I1_, hI1_⟩ : ∃ z, z = up I [20] 23 0 := ⟨_, rfl⟩
  refine x_put (C := RX7) (T := TX7) (N := 24) (ci := 7) hx hb hts iu7 tyX7 tyX7_ok nmX7 hown hK hH hS (id := [20]) (by first | trivial | (simp only [xD]; omega) | (simp [xD]; done) | (simp [xD]; omega)) rfl rfl (by decide) 23 (by decide) (hts _ tw862) (fun _ h9 => h9) (Or.inl rfl) (ty := .int) (v := .int 0) (by decide +kernel) rfl rfl (I' := I1_) (F' := (xFh h)) (fun i hi => by rw [hI1_]; exact up_id hi) (fun _ _ => rfl) (fun j9 => by rw [hI1_, up_row]; exact xv_upd (ci := 7) (k := 23) rfl j9) dX7_addPlan_16 (fun H locs hH hS => ?_)
  refine lv_aload_n hx hb dX7_addPlan_19 rfl (lv_at hl 0 rfl) ?_
  refine lv_dup hx hb dX7_addPlan_20 rfl ?_
  refine x_get (C := RX7) (T := TX7) (N := 24) (ci := 7) hx hb hts iu7 hown hK hH (id := [20]) (by first | trivial | (simp only [xD]; omega) | (simp [xD]; done) | (simp [xD]; omega)) rfl rfl (by decide) 10 (by decide) (hts _ tw849) (fun _ h9 => h9) rfl (v := .int (nI q)) (congrArg Value.int (by first | (rw [hI1_]; simp [up]; done) | (rw [hI1_]; simp [up]; exact hz) | (rw [hI1_]; simp [up, hz]; done))) dX7_addPlan_21 ?_
  refine lv_iconst (v := 1) hx hb dX7_addPlan_24 (by decide) ?_
  refine lv_iadd hx hb dX7_addPlan_25 ?_
  rw [show ((nI q) + 1) = (nI (q + 1)) from (nI_1 _)]
  obtain ⟨I2_, hI2_⟩ : ∃ z, z = up I1_ [20] 10 (nI (q + 1)) := ⟨_, rfl⟩
  refine x_put (C := RX7) (T := TX7) (N := 24) (ci := 7) hx hb hts iu7 tyX7 tyX7_ok nmX7 hown hK hH hS (id := [20]) (by first | trivial | (simp only [xD]; omega) | (simp [xD]; done) | (simp [xD]; omega)) rfl rfl (by decide) 10 (by decide) (hts _ tw849) (fun _ h9 => h9) (Or.inl rfl) (ty := .int) (v := .int (nI (q + 1))) (by decide +kernel) rfl rfl (I' := I2_) (F' := (xFh h)) (fun i hi => by rw [hI2_]; exact up_id hi) (fun _ _ => rfl) (fun j9 => by rw [hI2_, up_row]; exact xv_upd (ci := 7) (k := 10) rfl j9) dX7_addPlan_26 (fun H locs hH hS => ?_)
  refine lv_aload_n hx hb dX7_addPlan_29 rfl (lv_at hl 0 rfl) ?_
  refine x_get (C := RX7) (T := TX7) (N := 24) (ci := 7) hx hb hts iu7 hown hK hH (id := [20]) (by first | trivial | (simp only [xD]; omega) | (simp [xD]; done) | (simp [xD]; omega)) rfl rfl (by decide) 10 (by decide) (hts _ tw849) (fun _ h9 => h9) rfl (v := .int (nI (q + 1))) (congrArg Value.int (by rw [hI2_]; exact up_at)) dX7_addPlan_30 ?_
  refine lv_iconst (v := 1) hx hb dX7_addPlan_33 (by decide) ?_
  refine lv_isub hx hb dX7_addPlan_34 ?_
  rw [show ((nI (q + 1)) - 1) = (nI q) from (nI_pred q)]
  exact x_iret hx hb hr hlocks hS dX7_addPlan_35 rfl (by rw [hI2_, hI1_] at hH; exact hH)

set_option maxHeartbeats 1000000 in
set_option maxRecDepth 100000 in
theorem c_X7_addStep_1 (l : Launch) (g : xG) (h : xS) (I : xI) (n : Nat) (q : Nat) (hq : q ≤ 3) (hz : I [20] 10 = nI q) (x kd y : Int32) (hxb : sIn x 0 (nI q) = false) : xM l yX7_addStep (xws yX7_addStep cX7_addStep 7 (some FieldType.int)) 3 55 g [.ref (ga g [20]), .int x, .int kd, .int y] (xR g (xD h) I (xFh h) n) (some (.int 0)) (xR g (xD h) (up I [20] 23 1) (xFh h) n) 0 0 := by
  refine xM.of (by decide) (Nat.le_of_ble_eq_true rfl) ?_
  intro P_ e_ s m_ bl_ mt_ cd_ ls hx hb hr hown hlocks hml hnm hE hK hts hH hS hl
  have hl : lv_has ls 7 [(0, .ref (ga g [20])), (1, .int x), (2, .int kd), (3, .int y)] := hl
  refine lv_aload_n hx hb dX7_addStep_0 rfl (lv_at hl 0 rfl) ?_
  refine lv_iload_n hx hb dX7_addStep_1 rfl (lv_at hl 1 rfl) ?_
  refine x_V1 hx hb hml hown hE hS hl.1 cyX7_isPlan tw929 (c_X7_isPlan l g h I n x q (by omega) hz) ⟨Nat.le_of_ble_eq_true rfl, Nat.le_of_ble_eq_true rfl⟩ ⟨Nat.le_of_ble_eq_true rfl, Nat.le_of_ble_eq_true rfl⟩ (x_recv hK hH (id := [20]) (by first | trivial | (simp only [xD]; omega) | (simp [xD]; done) | (simp [xD]; omega)) (ci := 7) rfl (by decide) rfl) hH rfl rfl (Nat.le_of_ble_eq_true rfl) dX7_addStep_2 (fun H locs hH hS => ?_)
  refine lv_if_ne (tgt := 14) hx hb dX7_addStep_5 (by decide) (fun q_ => absurd q_ (fun z_ => z_ ((b01_eq0 _).mpr hxb))) (fun _ => ?_)
  refine lv_aload_n hx hb dX7_addStep_8 rfl (lv_at hl 0 rfl) ?_
  refine lv_iconst (v := 1) hx hb dX7_addStep_9 (by decide) ?_
  refine x_V1 hx hb hml hown hE hS hl.1 cyX7_raises tw921 (c_X7_raises l g h I n 1) ⟨Nat.le_of_ble_eq_true rfl, Nat.le_of_ble_eq_true rfl⟩ ⟨Nat.le_of_ble_eq_true rfl, Nat.le_of_ble_eq_true rfl⟩ (x_recv hK hH (id := [20]) (by first | trivial | (simp only [xD]; omega) | (simp [xD]; done) | (simp [xD]; omega)) (ci := 7) rfl (by decide) rfl) hH rfl rfl (Nat.le_of_ble_eq_true rfl) dX7_addStep_10 (fun H locs hH hS => ?_)
  exact x_iret hx hb hr hlocks hS dX7_addStep_13 rfl hH

set_option maxHeartbeats 1000000 in
set_option maxRecDepth 100000 in
theorem c_X7_addStep_k (l : Launch) (g : xG) (h : xS) (I : xI) (n : Nat) (q : Nat) (hq : q ≤ 3) (hz : I [20] 10 = nI q) (p : Nat) (hp : p < q) (k : Nat) (hk : k ≤ 8) (hs : I [24, 8] p = nI k) (kd y : Int32) (h5 : ¬ kd = 115) (h6 : ¬ kd = 116) (h9 : ¬ kd = 109) (hpa : y = -1 ∨ (¬ y = -1 ∧ sIn y 0 (nI k) = false) ∨ (∃ j : Nat, j < k ∧ y = nI j ∧ ¬ I [22, 0, p] j = 115) ∨ (∃ j : Nat, j < k ∧ y = nI j ∧ I [22, 0, p] j = 115)) : xM l yX7_addStep (xws yX7_addStep cX7_addStep 7 (some FieldType.int)) 4 77 g [.ref (ga g [20]), .int (nI p), .int kd, .int y] (xR g (xD h) I (xFh h) n) (some (.int 0)) (xR g (xD h) (up I [20] 23 2) (xFh h) n) 0 0 := by
  refine xM.of (by decide) (Nat.le_of_ble_eq_true rfl) ?_
  intro P_ e_ s m_ bl_ mt_ cd_ ls hx hb hr hown hlocks hml hnm hE hK hts hH hS hl
  have hl : lv_has ls 7 [(0, .ref (ga g [20])), (1, .int (nI p)), (2, .int kd), (3, .int y)] := hl
  refine lv_aload_n hx hb dX7_addStep_0 rfl (lv_at hl 0 rfl) ?_
  refine lv_iload_n hx hb dX7_addStep_1 rfl (lv_at hl 1 rfl) ?_
  refine x_V1 hx hb hml hown hE hS hl.1 cyX7_isPlan tw929 (c_X7_isPlan l g h I n ((nI p)) q (by omega) hz) ⟨Nat.le_of_ble_eq_true rfl, Nat.le_of_ble_eq_true rfl⟩ ⟨Nat.le_of_ble_eq_true rfl, Nat.le_of_ble_eq_true rfl⟩ (x_recv hK hH (id := [20]) (by first | trivial | (simp only [xD]; omega) | (simp [xD]; done) | (simp [xD]; omega)) (ci := 7) rfl (by decide) rfl) hH rfl rfl (Nat.le_of_ble_eq_true rfl) dX7_addStep_2 (fun H locs hH hS => ?_)
  refine lv_if_ne (tgt := 14) hx hb dX7_addStep_5 (by decide) (fun _ => ?_) (fun q_ => absurd q_ (fun z_ => by rw [sIn_nI hp (by omega)] at z_; exact absurd z_ (by decide)))
  refine lv_iload_n hx hb dX7_addStep_14 rfl (lv_at hl 2 rfl) ?_
  refine lv_bipush (v := 115) hx hb dX7_addStep_15 (by decide) ?_
  refine lv_icmp_eq (tgt := 32) hx hb dX7_addStep_17 (by decide) (fun q_ => absurd q_ h5) (fun _ => ?_)
  refine lv_iload_n hx hb dX7_addStep_20 rfl (lv_at hl 2 rfl) ?_
  refine lv_bipush (v := 116) hx hb dX7_addStep_21 (by decide) ?_
  refine lv_icmp_eq (tgt := 32) hx hb dX7_addStep_23 (by decide) (fun q_ => absurd q_ h6) (fun _ => ?_)
  refine lv_iload_n hx hb dX7_addStep_26 rfl (lv_at hl 2 rfl) ?_
  refine lv_bipush (v := 109) hx hb dX7_addStep_27 (by decide) ?_
  refine lv_icmp_ne (tgt := 36) hx hb dX7_addStep_29 (by decide) (fun _ => ?_) (fun q_ => absurd q_ h9)
  refine lv_iconst (v := 0) hx hb dX7_addStep_36 (by decide) ?_
  refine lv_istore (lv' := [(4, .int 0), (0, .ref (ga g [20])), (1, .int (nI p)), (2, .int kd), (3, .int y)]) hx hb dX7_addStep_37 hl (by decide) rfl (fun ls hl => ?_)
  rcases hpa with hy | ⟨hm1, hy⟩ | ⟨j, hj, hy, hy2⟩ | ⟨j, hj, hy, hy2⟩
  · skip
    refine lv_iload_n hx hb dX7_addStep_39 rfl (lv_at hl 4 rfl) ?_
    refine lv_iconst (v := (-1)) hx hb dX7_addStep_40 (by decide) ?_
    refine lv_icmp_eq (tgt := 66) hx hb dX7_addStep_41 (by decide) (fun _ => ?_) (fun q_ => absurd hy q_)
    refine lv_iconst (v := 1) hx hb dX7_addStep_66 (by decide) ?_
    refine lv_goto (tgt := 71) hx hb dX7_addStep_67 (by decide) ?_
    refine lv_istore (lv' := [(5, .int 1), (4, .int 0), (0, .ref (ga g [20])), (1, .int (nI p)), (2, .int kd), (3, .int y)]) hx hb dX7_addStep_71 hl (by decide) rfl (fun ls hl => ?_)
    refine lv_aload_n hx hb dX7_addStep_73 rfl (lv_at hl 2 rfl) ?_
    refine lv_iload hx hb dX7_addStep_74 (lv_at hl 1 rfl) ?_
    refine lv_if_eq (tgt := 84) hx hb dX7_addStep_76 (by decide) (fun _ => ?_) (fun q_ => absurd (by decide) q_)
    refine lv_iconst (v := 2) hx hb dX7_addStep_84 (by decide) ?_
    refine lv_goto (tgt := 113) hx hb dX7_addStep_85 (by decide) ?_
    obtain ⟨I1_, hI1_⟩ : ∃ z, z = up I [20] 23 2 := ⟨_, rfl⟩
    refine x_put (C := RX7) (T := TX7) (N := 24) (ci := 7) hx hb hts iu7 tyX7 tyX7_ok nmX7 hown hK hH hS (id := [20]) (by first | trivial | (simp only [xD]; omega) | (simp [xD]; done) | (simp [xD]; omega)) rfl rfl (by decide) 23 (by decide) (hts _ tw862) (fun _ h9 => h9) (Or.inl rfl) (ty := .int) (v := .int 2) (by decide +kernel) rfl rfl (I' := I1_) (F' := (xFh h)) (fun i hi => by rw [hI1_]; exact up_id hi) (fun _ _ => rfl) (fun j9 => by rw [hI1_, up_row]; exact xv_upd (ci := 7) (k := 23) rfl j9) dX7_addStep_113 (fun H locs hH hS => ?_)
    refine lv_aload_n hx hb dX7_addStep_116 rfl (lv_at hl 2 rfl) ?_
    refine x_get (C := RX7) (T := TX7) (N := 24) (ci := 7) hx hb hts iu7 hown hK hH (id := [20]) (by first | trivial | (simp only [xD]; omega) | (simp [xD]; done) | (simp [xD]; omega)) rfl rfl (by decide) 23 (by decide) (hts _ tw862) (fun _ h9 => h9) rfl (v := .int 2) (congrArg Value.int (by rw [hI1_]; exact up_at)) dX7_addStep_117 ?_
    refine lv_if_le (tgt := 125) hx hb dX7_addStep_120 (by decide) (fun q_ => absurd q_ (by decide)) (fun _ => ?_)
    refine lv_iconst (v := 0) hx hb dX7_addStep_123 (by decide) ?_
    exact x_iret hx hb hr hlocks hS dX7_addStep_124 rfl (by rw [hI1_] at hH; exact hH)
  · skip
    refine lv_iload_n hx hb dX7_addStep_39 rfl (lv_at hl 4 rfl) ?_
    refine lv_iconst (v := (-1)) hx hb dX7_addStep_40 (by decide) ?_
    refine lv_icmp_eq (tgt := 66) hx hb dX7_addStep_41 (by decide) (fun q_ => absurd q_ hm1) (fun _ => ?_)
    refine lv_aload_n hx hb dX7_addStep_44 rfl (lv_at hl 1 rfl) ?_
    refine lv_iload_n hx hb dX7_addStep_45 rfl (lv_at hl 2 rfl) ?_
    refine lv_iload_n hx hb dX7_addStep_46 rfl (lv_at hl 4 rfl) ?_
    refine x_V1 hx hb hml hown hE hS hl.1 cyX7_isStep tw936 (c_X7_isStep_1 l g h I n q hq hz p hp k hk hs y) ⟨Nat.le_of_ble_eq_true rfl, Nat.le_of_ble_eq_true rfl⟩ ⟨Nat.le_of_ble_eq_true rfl, Nat.le_of_ble_eq_true rfl⟩ (x_recv hK hH (id := [20]) (by first | trivial | (simp only [xD]; omega) | (simp [xD]; done) | (simp [xD]; omega)) (ci := 7) rfl (by decide) rfl) hH rfl rfl (Nat.le_of_ble_eq_true rfl) dX7_addStep_47 (fun H locs hH hS => ?_)
    refine lv_if_eq (tgt := 70) hx hb dX7_addStep_50 (by decide) (fun _ => ?_) (fun q_ => absurd ((b01_eq0 _).mpr hy) q_)
    refine lv_iconst (v := 0) hx hb dX7_addStep_70 (by decide) ?_
    refine lv_istore (lv' := [(5, .int 0), (4, .int 0), (0, .ref (ga g [20])), (1, .int (nI p)), (2, .int kd), (3, .int y)]) hx hb dX7_addStep_71 hl (by decide) rfl (fun ls hl => ?_)
    refine lv_aload_n hx hb dX7_addStep_73 rfl (lv_at hl 2 rfl) ?_
    refine lv_iload hx hb dX7_addStep_74 (lv_at hl 1 rfl) ?_
    refine lv_if_eq (tgt := 84) hx hb dX7_addStep_76 (by decide) (fun _ => ?_) (fun q_ => absurd (by decide) q_)
    refine lv_iconst (v := 2) hx hb dX7_addStep_84 (by decide) ?_
    refine lv_goto (tgt := 113) hx hb dX7_addStep_85 (by decide) ?_
    obtain ⟨I2_, hI2_⟩ : ∃ z, z = up I [20] 23 2 := ⟨_, rfl⟩
    refine x_put (C := RX7) (T := TX7) (N := 24) (ci := 7) hx hb hts iu7 tyX7 tyX7_ok nmX7 hown hK hH hS (id := [20]) (by first | trivial | (simp only [xD]; omega) | (simp [xD]; done) | (simp [xD]; omega)) rfl rfl (by decide) 23 (by decide) (hts _ tw862) (fun _ h9 => h9) (Or.inl rfl) (ty := .int) (v := .int 2) (by decide +kernel) rfl rfl (I' := I2_) (F' := (xFh h)) (fun i hi => by rw [hI2_]; exact up_id hi) (fun _ _ => rfl) (fun j9 => by rw [hI2_, up_row]; exact xv_upd (ci := 7) (k := 23) rfl j9) dX7_addStep_113 (fun H locs hH hS => ?_)
    refine lv_aload_n hx hb dX7_addStep_116 rfl (lv_at hl 2 rfl) ?_
    refine x_get (C := RX7) (T := TX7) (N := 24) (ci := 7) hx hb hts iu7 hown hK hH (id := [20]) (by first | trivial | (simp only [xD]; omega) | (simp [xD]; done) | (simp [xD]; omega)) rfl rfl (by decide) 23 (by decide) (hts _ tw862) (fun _ h9 => h9) rfl (v := .int 2) (congrArg Value.int (by rw [hI2_]; exact up_at)) dX7_addStep_117 ?_
    refine lv_if_le (tgt := 125) hx hb dX7_addStep_120 (by decide) (fun q_ => absurd q_ (by decide)) (fun _ => ?_)
    refine lv_iconst (v := 0) hx hb dX7_addStep_123 (by decide) ?_
    exact x_iret hx hb hr hlocks hS dX7_addStep_124 rfl (by rw [hI2_] at hH; exact hH)
  · skip
    subst hy
    refine lv_iload_n hx hb dX7_addStep_39 rfl (lv_at hl 4 rfl) ?_
    refine lv_iconst (v := (-1)) hx hb dX7_addStep_40 (by decide) ?_
    refine lv_icmp_eq (tgt := 66) hx hb dX7_addStep_41 (by decide) (fun q_ => absurd q_ (nI_m1 (by omega))) (fun _ => ?_)
    refine lv_aload_n hx hb dX7_addStep_44 rfl (lv_at hl 1 rfl) ?_
    refine lv_iload_n hx hb dX7_addStep_45 rfl (lv_at hl 2 rfl) ?_
    refine lv_iload_n hx hb dX7_addStep_46 rfl (lv_at hl 4 rfl) ?_
    refine x_V1 hx hb hml hown hE hS hl.1 cyX7_isStep tw936 (c_X7_isStep_1 l g h I n q hq hz p hp k hk hs ((nI j))) ⟨Nat.le_of_ble_eq_true rfl, Nat.le_of_ble_eq_true rfl⟩ ⟨Nat.le_of_ble_eq_true rfl, Nat.le_of_ble_eq_true rfl⟩ (x_recv hK hH (id := [20]) (by first | trivial | (simp only [xD]; omega) | (simp [xD]; done) | (simp [xD]; omega)) (ci := 7) rfl (by decide) rfl) hH rfl rfl (Nat.le_of_ble_eq_true rfl) dX7_addStep_47 (fun H locs hH hS => ?_)
    refine lv_if_eq (tgt := 70) hx hb dX7_addStep_50 (by decide) (fun q_ => absurd q_ (fun z_ => by rw [sIn_nI hj (by omega)] at z_; exact absurd z_ (by decide))) (fun _ => ?_)
    refine lv_aload_n hx hb dX7_addStep_53 rfl (lv_at hl 1 rfl) ?_
    refine x_get (C := RX7) (T := TX7) (N := 24) (ci := 7) hx hb hts iu7 hown hK hH (id := [20]) (by first | trivial | (simp only [xD]; omega) | (simp [xD]; done) | (simp [xD]; omega)) rfl rfl (by decide) 0 (by decide) (hts _ tw839) (fun _ h9 => h9) rfl (v := .ref (ga g [21, 0])) rfl dX7_addStep_54 ?_
    refine lv_iload_n hx hb dX7_addStep_57 rfl (lv_at hl 2 rfl) ?_
    refine x_aald hx hb hK hH (id := [21, 0]) (by first | trivial | (simp only [xD]; omega) | (simp [xD]; done) | (simp [xD]; omega)) 8 (L := 3) rfl (by decide) p rfl (by omega) (by decide) (v := .ref (ga g [22, 0, p])) (by show rq _ (if _ then _ else _) = _; rw [if_pos (show p < xLn 0 by show _ < 3; omega)]; rfl) dX7_addStep_58 ?_
    refine lv_iload_n hx hb dX7_addStep_59 rfl (lv_at hl 4 rfl) ?_
    refine x_cald hx hb hK hH (id := [22, 0, p]) (by first | trivial | (simp only [xD]; omega) | (simp [xD]; done) | (simp [xD]; omega)) (L := 8) rfl rfl j rfl (by omega) (by decide) dX7_addStep_60 ?_
    refine lv_bipush (v := 115) hx hb dX7_addStep_61 (by decide) ?_
    refine lv_icmp_ne (tgt := 70) hx hb dX7_addStep_63 (by decide) (fun _ => ?_) (fun q_ => absurd q_ hy2)
    refine lv_iconst (v := 0) hx hb dX7_addStep_70 (by decide) ?_
    refine lv_istore (lv' := [(5, .int 0), (4, .int 0), (0, .ref (ga g [20])), (1, .int (nI p)), (2, .int kd), (3, .int (nI j))]) hx hb dX7_addStep_71 hl (by decide) rfl (fun ls hl => ?_)
    refine lv_aload_n hx hb dX7_addStep_73 rfl (lv_at hl 2 rfl) ?_
    refine lv_iload hx hb dX7_addStep_74 (lv_at hl 1 rfl) ?_
    refine lv_if_eq (tgt := 84) hx hb dX7_addStep_76 (by decide) (fun _ => ?_) (fun q_ => absurd (by decide) q_)
    refine lv_iconst (v := 2) hx hb dX7_addStep_84 (by decide) ?_
    refine lv_goto (tgt := 113) hx hb dX7_addStep_85 (by decide) ?_
    obtain ⟨I3_, hI3_⟩ : ∃ z, z = up I [20] 23 2 := ⟨_, rfl⟩
    refine x_put (C := RX7) (T := TX7) (N := 24) (ci := 7) hx hb hts iu7 tyX7 tyX7_ok nmX7 hown hK hH hS (id := [20]) (by first | trivial | (simp only [xD]; omega) | (simp [xD]; done) | (simp [xD]; omega)) rfl rfl (by decide) 23 (by decide) (hts _ tw862) (fun _ h9 => h9) (Or.inl rfl) (ty := .int) (v := .int 2) (by decide +kernel) rfl rfl (I' := I3_) (F' := (xFh h)) (fun i hi => by rw [hI3_]; exact up_id hi) (fun _ _ => rfl) (fun j9 => by rw [hI3_, up_row]; exact xv_upd (ci := 7) (k := 23) rfl j9) dX7_addStep_113 (fun H locs hH hS => ?_)
    refine lv_aload_n hx hb dX7_addStep_116 rfl (lv_at hl 2 rfl) ?_
    refine x_get (C := RX7) (T := TX7) (N := 24) (ci := 7) hx hb hts iu7 hown hK hH (id := [20]) (by first | trivial | (simp only [xD]; omega) | (simp [xD]; done) | (simp [xD]; omega)) rfl rfl (by decide) 23 (by decide) (hts _ tw862) (fun _ h9 => h9) rfl (v := .int 2) (congrArg Value.int (by rw [hI3_]; exact up_at)) dX7_addStep_117 ?_
    refine lv_if_le (tgt := 125) hx hb dX7_addStep_120 (by decide) (fun q_ => absurd q_ (by decide)) (fun _ => ?_)
    refine lv_iconst (v := 0) hx hb dX7_addStep_123 (by decide) ?_
    exact x_iret hx hb hr hlocks hS dX7_addStep_124 rfl (by rw [hI3_] at hH; exact hH)
  · skip
    subst hy
    refine lv_iload_n hx hb dX7_addStep_39 rfl (lv_at hl 4 rfl) ?_
    refine lv_iconst (v := (-1)) hx hb dX7_addStep_40 (by decide) ?_
    refine lv_icmp_eq (tgt := 66) hx hb dX7_addStep_41 (by decide) (fun q_ => absurd q_ (nI_m1 (by omega))) (fun _ => ?_)
    refine lv_aload_n hx hb dX7_addStep_44 rfl (lv_at hl 1 rfl) ?_
    refine lv_iload_n hx hb dX7_addStep_45 rfl (lv_at hl 2 rfl) ?_
    refine lv_iload_n hx hb dX7_addStep_46 rfl (lv_at hl 4 rfl) ?_
    refine x_V1 hx hb hml hown hE hS hl.1 cyX7_isStep tw936 (c_X7_isStep_1 l g h I n q hq hz p hp k hk hs ((nI j))) ⟨Nat.le_of_ble_eq_true rfl, Nat.le_of_ble_eq_true rfl⟩ ⟨Nat.le_of_ble_eq_true rfl, Nat.le_of_ble_eq_true rfl⟩ (x_recv hK hH (id := [20]) (by first | trivial | (simp only [xD]; omega) | (simp [xD]; done) | (simp [xD]; omega)) (ci := 7) rfl (by decide) rfl) hH rfl rfl (Nat.le_of_ble_eq_true rfl) dX7_addStep_47 (fun H locs hH hS => ?_)
    refine lv_if_eq (tgt := 70) hx hb dX7_addStep_50 (by decide) (fun q_ => absurd q_ (fun z_ => by rw [sIn_nI hj (by omega)] at z_; exact absurd z_ (by decide))) (fun _ => ?_)
    refine lv_aload_n hx hb dX7_addStep_53 rfl (lv_at hl 1 rfl) ?_
    refine x_get (C := RX7) (T := TX7) (N := 24) (ci := 7) hx hb hts iu7 hown hK hH (id := [20]) (by first | trivial | (simp only [xD]; omega) | (simp [xD]; done) | (simp [xD]; omega)) rfl rfl (by decide) 0 (by decide) (hts _ tw839) (fun _ h9 => h9) rfl (v := .ref (ga g [21, 0])) rfl dX7_addStep_54 ?_
    refine lv_iload_n hx hb dX7_addStep_57 rfl (lv_at hl 2 rfl) ?_
    refine x_aald hx hb hK hH (id := [21, 0]) (by first | trivial | (simp only [xD]; omega) | (simp [xD]; done) | (simp [xD]; omega)) 8 (L := 3) rfl (by decide) p rfl (by omega) (by decide) (v := .ref (ga g [22, 0, p])) (by show rq _ (if _ then _ else _) = _; rw [if_pos (show p < xLn 0 by show _ < 3; omega)]; rfl) dX7_addStep_58 ?_
    refine lv_iload_n hx hb dX7_addStep_59 rfl (lv_at hl 4 rfl) ?_
    refine x_cald hx hb hK hH (id := [22, 0, p]) (by first | trivial | (simp only [xD]; omega) | (simp [xD]; done) | (simp [xD]; omega)) (L := 8) rfl rfl j rfl (by omega) (by decide) dX7_addStep_60 ?_
    refine lv_bipush (v := 115) hx hb dX7_addStep_61 (by decide) ?_
    refine lv_icmp_ne (tgt := 70) hx hb dX7_addStep_63 (by decide) (fun q_ => absurd q_ (fun z_ => z_ hy2)) (fun _ => ?_)
    refine lv_iconst (v := 1) hx hb dX7_addStep_66 (by decide) ?_
    refine lv_goto (tgt := 71) hx hb dX7_addStep_67 (by decide) ?_
    refine lv_istore (lv' := [(5, .int 1), (4, .int 0), (0, .ref (ga g [20])), (1, .int (nI p)), (2, .int kd), (3, .int (nI j))]) hx hb dX7_addStep_71 hl (by decide) rfl (fun ls hl => ?_)
    refine lv_aload_n hx hb dX7_addStep_73 rfl (lv_at hl 2 rfl) ?_
    refine lv_iload hx hb dX7_addStep_74 (lv_at hl 1 rfl) ?_
    refine lv_if_eq (tgt := 84) hx hb dX7_addStep_76 (by decide) (fun _ => ?_) (fun q_ => absurd (by decide) q_)
    refine lv_iconst (v := 2) hx hb dX7_addStep_84 (by decide) ?_
    refine lv_goto (tgt := 113) hx hb dX7_addStep_85 (by decide) ?_
    obtain ⟨I4_, hI4_⟩ : ∃ z, z = up I [20] 23 2 := ⟨_, rfl⟩
    refine x_put (C := RX7) (T := TX7) (N := 24) (ci := 7) hx hb hts iu7 tyX7 tyX7_ok nmX7 hown hK hH hS (id := [20]) (by first | trivial | (simp only [xD]; omega) | (simp [xD]; done) | (simp [xD]; omega)) rfl rfl (by decide) 23 (by decide) (hts _ tw862) (fun _ h9 => h9) (Or.inl rfl) (ty := .int) (v := .int 2) (by decide +kernel) rfl rfl (I' := I4_) (F' := (xFh h)) (fun i hi => by rw [hI4_]; exact up_id hi) (fun _ _ => rfl) (fun j9 => by rw [hI4_, up_row]; exact xv_upd (ci := 7) (k := 23) rfl j9) dX7_addStep_113 (fun H locs hH hS => ?_)
    refine lv_aload_n hx hb dX7_addStep_116 rfl (lv_at hl 2 rfl) ?_
    refine x_get (C := RX7) (T := TX7) (N := 24) (ci := 7) hx hb hts iu7 hown hK hH (id := [20]) (by first | trivial | (simp only [xD]; omega) | (simp [xD]; done) | (simp [xD]; omega)) rfl rfl (by decide) 23 (by decide) (hts _ tw862) (fun _ h9 => h9) rfl (v := .int 2) (congrArg Value.int (by rw [hI4_]; exact up_at)) dX7_addStep_117 ?_
    refine lv_if_le (tgt := 125) hx hb dX7_addStep_120 (by decide) (fun q_ => absurd q_ (by decide)) (fun _ => ?_)
    refine lv_iconst (v := 0) hx hb dX7_addStep_123 (by decide) ?_
    exact x_iret hx hb hr hlocks hS dX7_addStep_124 rfl (by rw [hI4_] at hH; exact hH)

set_option maxHeartbeats 1000000 in
set_option maxRecDepth 100000 in
theorem c_X7_addStep_r (l : Launch) (g : xG) (h : xS) (I : xI) (n : Nat) (q : Nat) (hq : q ≤ 3) (hz : I [20] 10 = nI q) (p : Nat) (hp : p < q) (k : Nat) (hk : k ≤ 8) (hs : I [24, 8] p = nI k) (kd y : Int32) (hkd : kd = 115 ∨ kd = 116 ∨ kd = 109) (hpa : (¬ y = -1 ∧ sIn y 0 (nI k) = false) ∨ (∃ j : Nat, j < k ∧ y = nI j ∧ ¬ I [22, 0, p] j = 115)) : xM l yX7_addStep (xws yX7_addStep cX7_addStep 7 (some FieldType.int)) 4 77 g [.ref (ga g [20]), .int (nI p), .int kd, .int y] (xR g (xD h) I (xFh h) n) (some (.int 0)) (xR g (xD h) (up I [20] 23 2) (xFh h) n) 0 0 := by
  refine xM.of (by decide) (Nat.le_of_ble_eq_true rfl) ?_
  intro P_ e_ s m_ bl_ mt_ cd_ ls hx hb hr hown hlocks hml hnm hE hK hts hH hS hl
  have hl : lv_has ls 7 [(0, .ref (ga g [20])), (1, .int (nI p)), (2, .int kd), (3, .int y)] := hl
  refine lv_aload_n hx hb dX7_addStep_0 rfl (lv_at hl 0 rfl) ?_
  refine lv_iload_n hx hb dX7_addStep_1 rfl (lv_at hl 1 rfl) ?_
  refine x_V1 hx hb hml hown hE hS hl.1 cyX7_isPlan tw929 (c_X7_isPlan l g h I n ((nI p)) q (by omega) hz) ⟨Nat.le_of_ble_eq_true rfl, Nat.le_of_ble_eq_true rfl⟩ ⟨Nat.le_of_ble_eq_true rfl, Nat.le_of_ble_eq_true rfl⟩ (x_recv hK hH (id := [20]) (by first | trivial | (simp only [xD]; omega) | (simp [xD]; done) | (simp [xD]; omega)) (ci := 7) rfl (by decide) rfl) hH rfl rfl (Nat.le_of_ble_eq_true rfl) dX7_addStep_2 (fun H locs hH hS => ?_)
  refine lv_if_ne (tgt := 14) hx hb dX7_addStep_5 (by decide) (fun _ => ?_) (fun q_ => absurd q_ (fun z_ => by rw [sIn_nI hp (by omega)] at z_; exact absurd z_ (by decide)))
  refine lv_iload_n hx hb dX7_addStep_14 rfl (lv_at hl 2 rfl) ?_
  refine lv_bipush (v := 115) hx hb dX7_addStep_15 (by decide) ?_
  refine lv_icmp_eq (tgt := 32) hx hb dX7_addStep_17 (by decide) (fun c_17 => ?_) (fun c_17 => ?_)
  · skip
    refine lv_iconst (v := 1) hx hb dX7_addStep_32 (by decide) ?_
    refine lv_goto (tgt := 37) hx hb dX7_addStep_33 (by decide) ?_
    refine lv_istore (lv' := [(4, .int 1), (0, .ref (ga g [20])), (1, .int (nI p)), (2, .int kd), (3, .int y)]) hx hb dX7_addStep_37 hl (by decide) rfl (fun ls hl => ?_)
    rcases hpa with ⟨hm1, hy⟩ | ⟨j, hj, hy, hy2⟩
    · skip
      refine lv_iload_n hx hb dX7_addStep_39 rfl (lv_at hl 4 rfl) ?_
      refine lv_iconst (v := (-1)) hx hb dX7_addStep_40 (by decide) ?_
      refine lv_icmp_eq (tgt := 66) hx hb dX7_addStep_41 (by decide) (fun q_ => absurd q_ hm1) (fun _ => ?_)
      refine lv_aload_n hx hb dX7_addStep_44 rfl (lv_at hl 1 rfl) ?_
      refine lv_iload_n hx hb dX7_addStep_45 rfl (lv_at hl 2 rfl) ?_
      refine lv_iload_n hx hb dX7_addStep_46 rfl (lv_at hl 4 rfl) ?_
      refine x_V1 hx hb hml hown hE hS hl.1 cyX7_isStep tw936 (c_X7_isStep_1 l g h I n q hq hz p hp k hk hs y) ⟨Nat.le_of_ble_eq_true rfl, Nat.le_of_ble_eq_true rfl⟩ ⟨Nat.le_of_ble_eq_true rfl, Nat.le_of_ble_eq_true rfl⟩ (x_recv hK hH (id := [20]) (by first | trivial | (simp only [xD]; omega) | (simp [xD]; done) | (simp [xD]; omega)) (ci := 7) rfl (by decide) rfl) hH rfl rfl (Nat.le_of_ble_eq_true rfl) dX7_addStep_47 (fun H locs hH hS => ?_)
      refine lv_if_eq (tgt := 70) hx hb dX7_addStep_50 (by decide) (fun _ => ?_) (fun q_ => absurd ((b01_eq0 _).mpr hy) q_)
      refine lv_iconst (v := 0) hx hb dX7_addStep_70 (by decide) ?_
      refine lv_istore (lv' := [(5, .int 0), (4, .int 1), (0, .ref (ga g [20])), (1, .int (nI p)), (2, .int kd), (3, .int y)]) hx hb dX7_addStep_71 hl (by decide) rfl (fun ls hl => ?_)
      refine lv_aload_n hx hb dX7_addStep_73 rfl (lv_at hl 2 rfl) ?_
      refine lv_iload hx hb dX7_addStep_74 (lv_at hl 1 rfl) ?_
      refine lv_if_eq (tgt := 84) hx hb dX7_addStep_76 (by decide) (fun q_ => absurd q_ (by decide)) (fun _ => ?_)
      refine lv_iload hx hb dX7_addStep_79 (lv_at hl 0 rfl) ?_
      refine lv_if_ne (tgt := 88) hx hb dX7_addStep_81 (by decide) (fun q_ => absurd (by decide) q_) (fun _ => ?_)
      refine lv_iconst (v := 2) hx hb dX7_addStep_84 (by decide) ?_
      refine lv_goto (tgt := 113) hx hb dX7_addStep_85 (by decide) ?_
      obtain ⟨I1_, hI1_⟩ : ∃ z, z = up I [20] 23 2 := ⟨_, rfl⟩
      refine x_put (C := RX7) (T := TX7) (N := 24) (ci := 7) hx hb hts iu7 tyX7 tyX7_ok nmX7 hown hK hH hS (id := [20]) (by first | trivial | (simp only [xD]; omega) | (simp [xD]; done) | (simp [xD]; omega)) rfl rfl (by decide) 23 (by decide) (hts _ tw862) (fun _ h9 => h9) (Or.inl rfl) (ty := .int) (v := .int 2) (by decide +kernel) rfl rfl (I' := I1_) (F' := (xFh h)) (fun i hi => by rw [hI1_]; exact up_id hi) (fun _ _ => rfl) (fun j9 => by rw [hI1_, up_row]; exact xv_upd (ci := 7) (k := 23) rfl j9) dX7_addStep_113 (fun H locs hH hS => ?_)
      refine lv_aload_n hx hb dX7_addStep_116 rfl (lv_at hl 2 rfl) ?_
      refine x_get (C := RX7) (T := TX7) (N := 24) (ci := 7) hx hb hts iu7 hown hK hH (id := [20]) (by first | trivial | (simp only [xD]; omega) | (simp [xD]; done) | (simp [xD]; omega)) rfl rfl (by decide) 23 (by decide) (hts _ tw862) (fun _ h9 => h9) rfl (v := .int 2) (congrArg Value.int (by rw [hI1_]; exact up_at)) dX7_addStep_117 ?_
      refine lv_if_le (tgt := 125) hx hb dX7_addStep_120 (by decide) (fun q_ => absurd q_ (by decide)) (fun _ => ?_)
      refine lv_iconst (v := 0) hx hb dX7_addStep_123 (by decide) ?_
      exact x_iret hx hb hr hlocks hS dX7_addStep_124 rfl (by rw [hI1_] at hH; exact hH)
    · skip
      subst hy
      refine lv_iload_n hx hb dX7_addStep_39 rfl (lv_at hl 4 rfl) ?_
      refine lv_iconst (v := (-1)) hx hb dX7_addStep_40 (by decide) ?_
      refine lv_icmp_eq (tgt := 66) hx hb dX7_addStep_41 (by decide) (fun q_ => absurd q_ (nI_m1 (by omega))) (fun _ => ?_)
      refine lv_aload_n hx hb dX7_addStep_44 rfl (lv_at hl 1 rfl) ?_
      refine lv_iload_n hx hb dX7_addStep_45 rfl (lv_at hl 2 rfl) ?_
      refine lv_iload_n hx hb dX7_addStep_46 rfl (lv_at hl 4 rfl) ?_
      refine x_V1 hx hb hml hown hE hS hl.1 cyX7_isStep tw936 (c_X7_isStep_1 l g h I n q hq hz p hp k hk hs ((nI j))) ⟨Nat.le_of_ble_eq_true rfl, Nat.le_of_ble_eq_true rfl⟩ ⟨Nat.le_of_ble_eq_true rfl, Nat.le_of_ble_eq_true rfl⟩ (x_recv hK hH (id := [20]) (by first | trivial | (simp only [xD]; omega) | (simp [xD]; done) | (simp [xD]; omega)) (ci := 7) rfl (by decide) rfl) hH rfl rfl (Nat.le_of_ble_eq_true rfl) dX7_addStep_47 (fun H locs hH hS => ?_)
      refine lv_if_eq (tgt := 70) hx hb dX7_addStep_50 (by decide) (fun q_ => absurd q_ (fun z_ => by rw [sIn_nI hj (by omega)] at z_; exact absurd z_ (by decide))) (fun _ => ?_)
      refine lv_aload_n hx hb dX7_addStep_53 rfl (lv_at hl 1 rfl) ?_
      refine x_get (C := RX7) (T := TX7) (N := 24) (ci := 7) hx hb hts iu7 hown hK hH (id := [20]) (by first | trivial | (simp only [xD]; omega) | (simp [xD]; done) | (simp [xD]; omega)) rfl rfl (by decide) 0 (by decide) (hts _ tw839) (fun _ h9 => h9) rfl (v := .ref (ga g [21, 0])) rfl dX7_addStep_54 ?_
      refine lv_iload_n hx hb dX7_addStep_57 rfl (lv_at hl 2 rfl) ?_
      refine x_aald hx hb hK hH (id := [21, 0]) (by first | trivial | (simp only [xD]; omega) | (simp [xD]; done) | (simp [xD]; omega)) 8 (L := 3) rfl (by decide) p rfl (by omega) (by decide) (v := .ref (ga g [22, 0, p])) (by show rq _ (if _ then _ else _) = _; rw [if_pos (show p < xLn 0 by show _ < 3; omega)]; rfl) dX7_addStep_58 ?_
      refine lv_iload_n hx hb dX7_addStep_59 rfl (lv_at hl 4 rfl) ?_
      refine x_cald hx hb hK hH (id := [22, 0, p]) (by first | trivial | (simp only [xD]; omega) | (simp [xD]; done) | (simp [xD]; omega)) (L := 8) rfl rfl j rfl (by omega) (by decide) dX7_addStep_60 ?_
      refine lv_bipush (v := 115) hx hb dX7_addStep_61 (by decide) ?_
      refine lv_icmp_ne (tgt := 70) hx hb dX7_addStep_63 (by decide) (fun _ => ?_) (fun q_ => absurd q_ hy2)
      refine lv_iconst (v := 0) hx hb dX7_addStep_70 (by decide) ?_
      refine lv_istore (lv' := [(5, .int 0), (4, .int 1), (0, .ref (ga g [20])), (1, .int (nI p)), (2, .int kd), (3, .int (nI j))]) hx hb dX7_addStep_71 hl (by decide) rfl (fun ls hl => ?_)
      refine lv_aload_n hx hb dX7_addStep_73 rfl (lv_at hl 2 rfl) ?_
      refine lv_iload hx hb dX7_addStep_74 (lv_at hl 1 rfl) ?_
      refine lv_if_eq (tgt := 84) hx hb dX7_addStep_76 (by decide) (fun q_ => absurd q_ (by decide)) (fun _ => ?_)
      refine lv_iload hx hb dX7_addStep_79 (lv_at hl 0 rfl) ?_
      refine lv_if_ne (tgt := 88) hx hb dX7_addStep_81 (by decide) (fun q_ => absurd (by decide) q_) (fun _ => ?_)
      refine lv_iconst (v := 2) hx hb dX7_addStep_84 (by decide) ?_
      refine lv_goto (tgt := 113) hx hb dX7_addStep_85 (by decide) ?_
      obtain ⟨I2_, hI2_⟩ : ∃ z, z = up I [20] 23 2 := ⟨_, rfl⟩
      refine x_put (C := RX7) (T := TX7) (N := 24) (ci := 7) hx hb hts iu7 tyX7 tyX7_ok nmX7 hown hK hH hS (id := [20]) (by first | trivial | (simp only [xD]; omega) | (simp [xD]; done) | (simp [xD]; omega)) rfl rfl (by decide) 23 (by decide) (hts _ tw862) (fun _ h9 => h9) (Or.inl rfl) (ty := .int) (v := .int 2) (by decide +kernel) rfl rfl (I' := I2_) (F' := (xFh h)) (fun i hi => by rw [hI2_]; exact up_id hi) (fun _ _ => rfl) (fun j9 => by rw [hI2_, up_row]; exact xv_upd (ci := 7) (k := 23) rfl j9) dX7_addStep_113 (fun H locs hH hS => ?_)
      refine lv_aload_n hx hb dX7_addStep_116 rfl (lv_at hl 2 rfl) ?_
      refine x_get (C := RX7) (T := TX7) (N := 24) (ci := 7) hx hb hts iu7 hown hK hH (id := [20]) (by first | trivial | (simp only [xD]; omega) | (simp [xD]; done) | (simp [xD]; omega)) rfl rfl (by decide) 23 (by decide) (hts _ tw862) (fun _ h9 => h9) rfl (v := .int 2) (congrArg Value.int (by rw [hI2_]; exact up_at)) dX7_addStep_117 ?_
      refine lv_if_le (tgt := 125) hx hb dX7_addStep_120 (by decide) (fun q_ => absurd q_ (by decide)) (fun _ => ?_)
      refine lv_iconst (v := 0) hx hb dX7_addStep_123 (by decide) ?_
      exact x_iret hx hb hr hlocks hS dX7_addStep_124 rfl (by rw [hI2_] at hH; exact hH)
  · skip
    refine lv_iload_n hx hb dX7_addStep_20 rfl (lv_at hl 2 rfl) ?_
    refine lv_bipush (v := 116) hx hb dX7_addStep_21 (by decide) ?_
    refine lv_icmp_eq (tgt := 32) hx hb dX7_addStep_23 (by decide) (fun c_23 => ?_) (fun c_23 => ?_)
    · skip
      refine lv_iconst (v := 1) hx hb dX7_addStep_32 (by decide) ?_
      refine lv_goto (tgt := 37) hx hb dX7_addStep_33 (by decide) ?_
      refine lv_istore (lv' := [(4, .int 1), (0, .ref (ga g [20])), (1, .int (nI p)), (2, .int kd), (3, .int y)]) hx hb dX7_addStep_37 hl (by decide) rfl (fun ls hl => ?_)
      rcases hpa with ⟨hm1, hy⟩ | ⟨j, hj, hy, hy2⟩
      · skip
        refine lv_iload_n hx hb dX7_addStep_39 rfl (lv_at hl 4 rfl) ?_
        refine lv_iconst (v := (-1)) hx hb dX7_addStep_40 (by decide) ?_
        refine lv_icmp_eq (tgt := 66) hx hb dX7_addStep_41 (by decide) (fun q_ => absurd q_ hm1) (fun _ => ?_)
        refine lv_aload_n hx hb dX7_addStep_44 rfl (lv_at hl 1 rfl) ?_
        refine lv_iload_n hx hb dX7_addStep_45 rfl (lv_at hl 2 rfl) ?_
        refine lv_iload_n hx hb dX7_addStep_46 rfl (lv_at hl 4 rfl) ?_
        refine x_V1 hx hb hml hown hE hS hl.1 cyX7_isStep tw936 (c_X7_isStep_1 l g h I n q hq hz p hp k hk hs y) ⟨Nat.le_of_ble_eq_true rfl, Nat.le_of_ble_eq_true rfl⟩ ⟨Nat.le_of_ble_eq_true rfl, Nat.le_of_ble_eq_true rfl⟩ (x_recv hK hH (id := [20]) (by first | trivial | (simp only [xD]; omega) | (simp [xD]; done) | (simp [xD]; omega)) (ci := 7) rfl (by decide) rfl) hH rfl rfl (Nat.le_of_ble_eq_true rfl) dX7_addStep_47 (fun H locs hH hS => ?_)
        refine lv_if_eq (tgt := 70) hx hb dX7_addStep_50 (by decide) (fun _ => ?_) (fun q_ => absurd ((b01_eq0 _).mpr hy) q_)
        refine lv_iconst (v := 0) hx hb dX7_addStep_70 (by decide) ?_
        refine lv_istore (lv' := [(5, .int 0), (4, .int 1), (0, .ref (ga g [20])), (1, .int (nI p)), (2, .int kd), (3, .int y)]) hx hb dX7_addStep_71 hl (by decide) rfl (fun ls hl => ?_)
        refine lv_aload_n hx hb dX7_addStep_73 rfl (lv_at hl 2 rfl) ?_
        refine lv_iload hx hb dX7_addStep_74 (lv_at hl 1 rfl) ?_
        refine lv_if_eq (tgt := 84) hx hb dX7_addStep_76 (by decide) (fun q_ => absurd q_ (by decide)) (fun _ => ?_)
        refine lv_iload hx hb dX7_addStep_79 (lv_at hl 0 rfl) ?_
        refine lv_if_ne (tgt := 88) hx hb dX7_addStep_81 (by decide) (fun q_ => absurd (by decide) q_) (fun _ => ?_)
        refine lv_iconst (v := 2) hx hb dX7_addStep_84 (by decide) ?_
        refine lv_goto (tgt := 113) hx hb dX7_addStep_85 (by decide) ?_
        obtain ⟨I3_, hI3_⟩ : ∃ z, z = up I [20] 23 2 := ⟨_, rfl⟩
        refine x_put (C := RX7) (T := TX7) (N := 24) (ci := 7) hx hb hts iu7 tyX7 tyX7_ok nmX7 hown hK hH hS (id := [20]) (by first | trivial | (simp only [xD]; omega) | (simp [xD]; done) | (simp [xD]; omega)) rfl rfl (by decide) 23 (by decide) (hts _ tw862) (fun _ h9 => h9) (Or.inl rfl) (ty := .int) (v := .int 2) (by decide +kernel) rfl rfl (I' := I3_) (F' := (xFh h)) (fun i hi => by rw [hI3_]; exact up_id hi) (fun _ _ => rfl) (fun j9 => by rw [hI3_, up_row]; exact xv_upd (ci := 7) (k := 23) rfl j9) dX7_addStep_113 (fun H locs hH hS => ?_)
        refine lv_aload_n hx hb dX7_addStep_116 rfl (lv_at hl 2 rfl) ?_
        refine x_get (C := RX7) (T := TX7) (N := 24) (ci := 7) hx hb hts iu7 hown hK hH (id := [20]) (by first | trivial | (simp only [xD]; omega) | (simp [xD]; done) | (simp [xD]; omega)) rfl rfl (by decide) 23 (by decide) (hts _ tw862) (fun _ h9 => h9) rfl (v := .int 2) (congrArg Value.int (by rw [hI3_]; exact up_at)) dX7_addStep_117 ?_
        refine lv_if_le (tgt := 125) hx hb dX7_addStep_120 (by decide) (fun q_ => absurd q_ (by decide)) (fun _ => ?_)
        refine lv_iconst (v := 0) hx hb dX7_addStep_123 (by decide) ?_
        exact x_iret hx hb hr hlocks hS dX7_addStep_124 rfl (by rw [hI3_] at hH; exact hH)
      · skip
        subst hy
        refine lv_iload_n hx hb dX7_addStep_39 rfl (lv_at hl 4 rfl) ?_
        refine lv_iconst (v := (-1)) hx hb dX7_addStep_40 (by decide) ?_
        refine lv_icmp_eq (tgt := 66) hx hb dX7_addStep_41 (by decide) (fun q_ => absurd q_ (nI_m1 (by omega))) (fun _ => ?_)
        refine lv_aload_n hx hb dX7_addStep_44 rfl (lv_at hl 1 rfl) ?_
        refine lv_iload_n hx hb dX7_addStep_45 rfl (lv_at hl 2 rfl) ?_
        refine lv_iload_n hx hb dX7_addStep_46 rfl (lv_at hl 4 rfl) ?_
        refine x_V1 hx hb hml hown hE hS hl.1 cyX7_isStep tw936 (c_X7_isStep_1 l g h I n q hq hz p hp k hk hs ((nI j))) ⟨Nat.le_of_ble_eq_true rfl, Nat.le_of_ble_eq_true rfl⟩ ⟨Nat.le_of_ble_eq_true rfl, Nat.le_of_ble_eq_true rfl⟩ (x_recv hK hH (id := [20]) (by first | trivial | (simp only [xD]; omega) | (simp [xD]; done) | (simp [xD]; omega)) (ci := 7) rfl (by decide) rfl) hH rfl rfl (Nat.le_of_ble_eq_true rfl) dX7_addStep_47 (fun H locs hH hS => ?_)
        refine lv_if_eq (tgt := 70) hx hb dX7_addStep_50 (by decide) (fun q_ => absurd q_ (fun z_ => by rw [sIn_nI hj (by omega)] at z_; exact absurd z_ (by decide))) (fun _ => ?_)
        refine lv_aload_n hx hb dX7_addStep_53 rfl (lv_at hl 1 rfl) ?_
        refine x_get (C := RX7) (T := TX7) (N := 24) (ci := 7) hx hb hts iu7 hown hK hH (id := [20]) (by first | trivial | (simp only [xD]; omega) | (simp [xD]; done) | (simp [xD]; omega)) rfl rfl (by decide) 0 (by decide) (hts _ tw839) (fun _ h9 => h9) rfl (v := .ref (ga g [21, 0])) rfl dX7_addStep_54 ?_
        refine lv_iload_n hx hb dX7_addStep_57 rfl (lv_at hl 2 rfl) ?_
        refine x_aald hx hb hK hH (id := [21, 0]) (by first | trivial | (simp only [xD]; omega) | (simp [xD]; done) | (simp [xD]; omega)) 8 (L := 3) rfl (by decide) p rfl (by omega) (by decide) (v := .ref (ga g [22, 0, p])) (by show rq _ (if _ then _ else _) = _; rw [if_pos (show p < xLn 0 by show _ < 3; omega)]; rfl) dX7_addStep_58 ?_
        refine lv_iload_n hx hb dX7_addStep_59 rfl (lv_at hl 4 rfl) ?_
        refine x_cald hx hb hK hH (id := [22, 0, p]) (by first | trivial | (simp only [xD]; omega) | (simp [xD]; done) | (simp [xD]; omega)) (L := 8) rfl rfl j rfl (by omega) (by decide) dX7_addStep_60 ?_
        refine lv_bipush (v := 115) hx hb dX7_addStep_61 (by decide) ?_
        refine lv_icmp_ne (tgt := 70) hx hb dX7_addStep_63 (by decide) (fun _ => ?_) (fun q_ => absurd q_ hy2)
        refine lv_iconst (v := 0) hx hb dX7_addStep_70 (by decide) ?_
        refine lv_istore (lv' := [(5, .int 0), (4, .int 1), (0, .ref (ga g [20])), (1, .int (nI p)), (2, .int kd), (3, .int (nI j))]) hx hb dX7_addStep_71 hl (by decide) rfl (fun ls hl => ?_)
        refine lv_aload_n hx hb dX7_addStep_73 rfl (lv_at hl 2 rfl) ?_
        refine lv_iload hx hb dX7_addStep_74 (lv_at hl 1 rfl) ?_
        refine lv_if_eq (tgt := 84) hx hb dX7_addStep_76 (by decide) (fun q_ => absurd q_ (by decide)) (fun _ => ?_)
        refine lv_iload hx hb dX7_addStep_79 (lv_at hl 0 rfl) ?_
        refine lv_if_ne (tgt := 88) hx hb dX7_addStep_81 (by decide) (fun q_ => absurd (by decide) q_) (fun _ => ?_)
        refine lv_iconst (v := 2) hx hb dX7_addStep_84 (by decide) ?_
        refine lv_goto (tgt := 113) hx hb dX7_addStep_85 (by decide) ?_
        obtain ⟨I4_, hI4_⟩ : ∃ z, z = up I [20] 23 2 := ⟨_, rfl⟩
        refine x_put (C := RX7) (T := TX7) (N := 24) (ci := 7) hx hb hts iu7 tyX7 tyX7_ok nmX7 hown hK hH hS (id := [20]) (by first | trivial | (simp only [xD]; omega) | (simp [xD]; done) | (simp [xD]; omega)) rfl rfl (by decide) 23 (by decide) (hts _ tw862) (fun _ h9 => h9) (Or.inl rfl) (ty := .int) (v := .int 2) (by decide +kernel) rfl rfl (I' := I4_) (F' := (xFh h)) (fun i hi => by rw [hI4_]; exact up_id hi) (fun _ _ => rfl) (fun j9 => by rw [hI4_, up_row]; exact xv_upd (ci := 7) (k := 23) rfl j9) dX7_addStep_113 (fun H locs hH hS => ?_)
        refine lv_aload_n hx hb dX7_addStep_116 rfl (lv_at hl 2 rfl) ?_
        refine x_get (C := RX7) (T := TX7) (N := 24) (ci := 7) hx hb hts iu7 hown hK hH (id := [20]) (by first | trivial | (simp only [xD]; omega) | (simp [xD]; done) | (simp [xD]; omega)) rfl rfl (by decide) 23 (by decide) (hts _ tw862) (fun _ h9 => h9) rfl (v := .int 2) (congrArg Value.int (by rw [hI4_]; exact up_at)) dX7_addStep_117 ?_
        refine lv_if_le (tgt := 125) hx hb dX7_addStep_120 (by decide) (fun q_ => absurd q_ (by decide)) (fun _ => ?_)
        refine lv_iconst (v := 0) hx hb dX7_addStep_123 (by decide) ?_
        exact x_iret hx hb hr hlocks hS dX7_addStep_124 rfl (by rw [hI4_] at hH; exact hH)
    · skip
      refine lv_iload_n hx hb dX7_addStep_26 rfl (lv_at hl 2 rfl) ?_
      refine lv_bipush (v := 109) hx hb dX7_addStep_27 (by decide) ?_
      refine lv_icmp_ne (tgt := 36) hx hb dX7_addStep_29 (by decide) (fun q_ => absurd q_ (fun z_ => z_ ((hkd.resolve_left c_17).resolve_left c_23))) (fun _ => ?_)
      refine lv_iconst (v := 1) hx hb dX7_addStep_32 (by decide) ?_
      refine lv_goto (tgt := 37) hx hb dX7_addStep_33 (by decide) ?_
      refine lv_istore (lv' := [(4, .int 1), (0, .ref (ga g [20])), (1, .int (nI p)), (2, .int kd), (3, .int y)]) hx hb dX7_addStep_37 hl (by decide) rfl (fun ls hl => ?_)
      rcases hpa with ⟨hm1, hy⟩ | ⟨j, hj, hy, hy2⟩
      · skip
        refine lv_iload_n hx hb dX7_addStep_39 rfl (lv_at hl 4 rfl) ?_
        refine lv_iconst (v := (-1)) hx hb dX7_addStep_40 (by decide) ?_
        refine lv_icmp_eq (tgt := 66) hx hb dX7_addStep_41 (by decide) (fun q_ => absurd q_ hm1) (fun _ => ?_)
        refine lv_aload_n hx hb dX7_addStep_44 rfl (lv_at hl 1 rfl) ?_
        refine lv_iload_n hx hb dX7_addStep_45 rfl (lv_at hl 2 rfl) ?_
        refine lv_iload_n hx hb dX7_addStep_46 rfl (lv_at hl 4 rfl) ?_
        refine x_V1 hx hb hml hown hE hS hl.1 cyX7_isStep tw936 (c_X7_isStep_1 l g h I n q hq hz p hp k hk hs y) ⟨Nat.le_of_ble_eq_true rfl, Nat.le_of_ble_eq_true rfl⟩ ⟨Nat.le_of_ble_eq_true rfl, Nat.le_of_ble_eq_true rfl⟩ (x_recv hK hH (id := [20]) (by first | trivial | (simp only [xD]; omega) | (simp [xD]; done) | (simp [xD]; omega)) (ci := 7) rfl (by decide) rfl) hH rfl rfl (Nat.le_of_ble_eq_true rfl) dX7_addStep_47 (fun H locs hH hS => ?_)
        refine lv_if_eq (tgt := 70) hx hb dX7_addStep_50 (by decide) (fun _ => ?_) (fun q_ => absurd ((b01_eq0 _).mpr hy) q_)
        refine lv_iconst (v := 0) hx hb dX7_addStep_70 (by decide) ?_
        refine lv_istore (lv' := [(5, .int 0), (4, .int 1), (0, .ref (ga g [20])), (1, .int (nI p)), (2, .int kd), (3, .int y)]) hx hb dX7_addStep_71 hl (by decide) rfl (fun ls hl => ?_)
        refine lv_aload_n hx hb dX7_addStep_73 rfl (lv_at hl 2 rfl) ?_
        refine lv_iload hx hb dX7_addStep_74 (lv_at hl 1 rfl) ?_
        refine lv_if_eq (tgt := 84) hx hb dX7_addStep_76 (by decide) (fun q_ => absurd q_ (by decide)) (fun _ => ?_)
        refine lv_iload hx hb dX7_addStep_79 (lv_at hl 0 rfl) ?_
        refine lv_if_ne (tgt := 88) hx hb dX7_addStep_81 (by decide) (fun q_ => absurd (by decide) q_) (fun _ => ?_)
        refine lv_iconst (v := 2) hx hb dX7_addStep_84 (by decide) ?_
        refine lv_goto (tgt := 113) hx hb dX7_addStep_85 (by decide) ?_
        obtain ⟨I5_, hI5_⟩ : ∃ z, z = up I [20] 23 2 := ⟨_, rfl⟩
        refine x_put (C := RX7) (T := TX7) (N := 24) (ci := 7) hx hb hts iu7 tyX7 tyX7_ok nmX7 hown hK hH hS (id := [20]) (by first | trivial | (simp only [xD]; omega) | (simp [xD]; done) | (simp [xD]; omega)) rfl rfl (by decide) 23 (by decide) (hts _ tw862) (fun _ h9 => h9) (Or.inl rfl) (ty := .int) (v := .int 2) (by decide +kernel) rfl rfl (I' := I5_) (F' := (xFh h)) (fun i hi => by rw [hI5_]; exact up_id hi) (fun _ _ => rfl) (fun j9 => by rw [hI5_, up_row]; exact xv_upd (ci := 7) (k := 23) rfl j9) dX7_addStep_113 (fun H locs hH hS => ?_)
        refine lv_aload_n hx hb dX7_addStep_116 rfl (lv_at hl 2 rfl) ?_
        refine x_get (C := RX7) (T := TX7) (N := 24) (ci := 7) hx hb hts iu7 hown hK hH (id := [20]) (by first | trivial | (simp only [xD]; omega) | (simp [xD]; done) | (simp [xD]; omega)) rfl rfl (by decide) 23 (by decide) (hts _ tw862) (fun _ h9 => h9) rfl (v := .int 2) (congrArg Value.int (by rw [hI5_]; exact up_at)) dX7_addStep_117 ?_
        refine lv_if_le (tgt := 125) hx hb dX7_addStep_120 (by decide) (fun q_ => absurd q_ (by decide)) (fun _ => ?_)
        refine lv_iconst (v := 0) hx hb dX7_addStep_123 (by decide) ?_
        exact x_iret hx hb hr hlocks hS dX7_addStep_124 rfl (by rw [hI5_] at hH; exact hH)
      · skip
        subst hy
        refine lv_iload_n hx hb dX7_addStep_39 rfl (lv_at hl 4 rfl) ?_
        refine lv_iconst (v := (-1)) hx hb dX7_addStep_40 (by decide) ?_
        refine lv_icmp_eq (tgt := 66) hx hb dX7_addStep_41 (by decide) (fun q_ => absurd q_ (nI_m1 (by omega))) (fun _ => ?_)
        refine lv_aload_n hx hb dX7_addStep_44 rfl (lv_at hl 1 rfl) ?_
        refine lv_iload_n hx hb dX7_addStep_45 rfl (lv_at hl 2 rfl) ?_
        refine lv_iload_n hx hb dX7_addStep_46 rfl (lv_at hl 4 rfl) ?_
        refine x_V1 hx hb hml hown hE hS hl.1 cyX7_isStep tw936 (c_X7_isStep_1 l g h I n q hq hz p hp k hk hs ((nI j))) ⟨Nat.le_of_ble_eq_true rfl, Nat.le_of_ble_eq_true rfl⟩ ⟨Nat.le_of_ble_eq_true rfl, Nat.le_of_ble_eq_true rfl⟩ (x_recv hK hH (id := [20]) (by first | trivial | (simp only [xD]; omega) | (simp [xD]; done) | (simp [xD]; omega)) (ci := 7) rfl (by decide) rfl) hH rfl rfl (Nat.le_of_ble_eq_true rfl) dX7_addStep_47 (fun H locs hH hS => ?_)
        refine lv_if_eq (tgt := 70) hx hb dX7_addStep_50 (by decide) (fun q_ => absurd q_ (fun z_ => by rw [sIn_nI hj (by omega)] at z_; exact absurd z_ (by decide))) (fun _ => ?_)
        refine lv_aload_n hx hb dX7_addStep_53 rfl (lv_at hl 1 rfl) ?_
        refine x_get (C := RX7) (T := TX7) (N := 24) (ci := 7) hx hb hts iu7 hown hK hH (id := [20]) (by first | trivial | (simp only [xD]; omega) | (simp [xD]; done) | (simp [xD]; omega)) rfl rfl (by decide) 0 (by decide) (hts _ tw839) (fun _ h9 => h9) rfl (v := .ref (ga g [21, 0])) rfl dX7_addStep_54 ?_
        refine lv_iload_n hx hb dX7_addStep_57 rfl (lv_at hl 2 rfl) ?_
        refine x_aald hx hb hK hH (id := [21, 0]) (by first | trivial | (simp only [xD]; omega) | (simp [xD]; done) | (simp [xD]; omega)) 8 (L := 3) rfl (by decide) p rfl (by omega) (by decide) (v := .ref (ga g [22, 0, p])) (by show rq _ (if _ then _ else _) = _; rw [if_pos (show p < xLn 0 by show _ < 3; omega)]; rfl) dX7_addStep_58 ?_
        refine lv_iload_n hx hb dX7_addStep_59 rfl (lv_at hl 4 rfl) ?_
        refine x_cald hx hb hK hH (id := [22, 0, p]) (by first | trivial | (simp only [xD]; omega) | (simp [xD]; done) | (simp [xD]; omega)) (L := 8) rfl rfl j rfl (by omega) (by decide) dX7_addStep_60 ?_
        refine lv_bipush (v := 115) hx hb dX7_addStep_61 (by decide) ?_
        refine lv_icmp_ne (tgt := 70) hx hb dX7_addStep_63 (by decide) (fun _ => ?_) (fun q_ => absurd q_ hy2)
        refine lv_iconst (v := 0) hx hb dX7_addStep_70 (by decide) ?_
        refine lv_istore (lv' := [(5, .int 0), (4, .int 1), (0, .ref (ga g [20])), (1, .int (nI p)), (2, .int kd), (3, .int (nI j))]) hx hb dX7_addStep_71 hl (by decide) rfl (fun ls hl => ?_)
        refine lv_aload_n hx hb dX7_addStep_73 rfl (lv_at hl 2 rfl) ?_
        refine lv_iload hx hb dX7_addStep_74 (lv_at hl 1 rfl) ?_
        refine lv_if_eq (tgt := 84) hx hb dX7_addStep_76 (by decide) (fun q_ => absurd q_ (by decide)) (fun _ => ?_)
        refine lv_iload hx hb dX7_addStep_79 (lv_at hl 0 rfl) ?_
        refine lv_if_ne (tgt := 88) hx hb dX7_addStep_81 (by decide) (fun q_ => absurd (by decide) q_) (fun _ => ?_)
        refine lv_iconst (v := 2) hx hb dX7_addStep_84 (by decide) ?_
        refine lv_goto (tgt := 113) hx hb dX7_addStep_85 (by decide) ?_
        obtain ⟨I6_, hI6_⟩ : ∃ z, z = up I [20] 23 2 := ⟨_, rfl⟩
        refine x_put (C := RX7) (T := TX7) (N := 24) (ci := 7) hx hb hts iu7 tyX7 tyX7_ok nmX7 hown hK hH hS (id := [20]) (by first | trivial | (simp only [xD]; omega) | (simp [xD]; done) | (simp [xD]; omega)) rfl rfl (by decide) 23 (by decide) (hts _ tw862) (fun _ h9 => h9) (Or.inl rfl) (ty := .int) (v := .int 2) (by decide +kernel) rfl rfl (I' := I6_) (F' := (xFh h)) (fun i hi => by rw [hI6_]; exact up_id hi) (fun _ _ => rfl) (fun j9 => by rw [hI6_, up_row]; exact xv_upd (ci := 7) (k := 23) rfl j9) dX7_addStep_113 (fun H locs hH hS => ?_)
        refine lv_aload_n hx hb dX7_addStep_116 rfl (lv_at hl 2 rfl) ?_
        refine x_get (C := RX7) (T := TX7) (N := 24) (ci := 7) hx hb hts iu7 hown hK hH (id := [20]) (by first | trivial | (simp only [xD]; omega) | (simp [xD]; done) | (simp [xD]; omega)) rfl rfl (by decide) 23 (by decide) (hts _ tw862) (fun _ h9 => h9) rfl (v := .int 2) (congrArg Value.int (by rw [hI6_]; exact up_at)) dX7_addStep_117 ?_
        refine lv_if_le (tgt := 125) hx hb dX7_addStep_120 (by decide) (fun q_ => absurd q_ (by decide)) (fun _ => ?_)
        refine lv_iconst (v := 0) hx hb dX7_addStep_123 (by decide) ?_
        exact x_iret hx hb hr hlocks hS dX7_addStep_124 rfl (by rw [hI6_] at hH; exact hH)

set_option maxHeartbeats 1000000 in
set_option maxRecDepth 100000 in
theorem c_X7_addStep_u (l : Launch) (g : xG) (h : xS) (I : xI) (n : Nat) (q : Nat) (hq : q ≤ 3) (hz : I [20] 10 = nI q) (p : Nat) (hp : p < q) (k : Nat) (hk : k ≤ 8) (hs : I [24, 8] p = nI k) (kd y : Int32) (hkd : kd = 115 ∨ kd = 116 ∨ kd = 109) (hpa : y = -1 ∨ (∃ j : Nat, j < k ∧ y = nI j ∧ I [22, 0, p] j = 115)) (hu : ¬ I [24, 9] p = 0) : xM l yX7_addStep (xws yX7_addStep cX7_addStep 7 (some FieldType.int)) 4 77 g [.ref (ga g [20]), .int (nI p), .int kd, .int y] (xR g (xD h) I (xFh h) n) (some (.int 0)) (xR g (xD h) (up I [20] 23 3) (xFh h) n) 0 0 := by
  refine xM.of (by decide) (Nat.le_of_ble_eq_true rfl) ?_
  intro P_ e_ s m_ bl_ mt_ cd_ ls hx hb hr hown hlocks hml hnm hE hK hts hH hS hl
  have hl : lv_has ls 7 [(0, .ref (ga g [20])), (1, .int (nI p)), (2, .int kd), (3, .int y)] := hl
  refine lv_aload_n hx hb dX7_addStep_0 rfl (lv_at hl 0 rfl) ?_
  refine lv_iload_n hx hb dX7_addStep_1 rfl (lv_at hl 1 rfl) ?_
  refine x_V1 hx hb hml hown hE hS hl.1 cyX7_isPlan tw929 (c_X7_isPlan l g h I n ((nI p)) q (by omega) hz) ⟨Nat.le_of_ble_eq_true rfl, Nat.le_of_ble_eq_true rfl⟩ ⟨Nat.le_of_ble_eq_true rfl, Nat.le_of_ble_eq_true rfl⟩ (x_recv hK hH (id := [20]) (by first | trivial | (simp only [xD]; omega) | (simp [xD]; done) | (simp [xD]; omega)) (ci := 7) rfl (by decide) rfl) hH rfl rfl (Nat.le_of_ble_eq_true rfl) dX7_addStep_2 (fun H locs hH hS => ?_)
  refine lv_if_ne (tgt := 14) hx hb dX7_addStep_5 (by decide) (fun _ => ?_) (fun q_ => absurd q_ (fun z_ => by rw [sIn_nI hp (by omega)] at z_; exact absurd z_ (by decide)))
  refine lv_iload_n hx hb dX7_addStep_14 rfl (lv_at hl 2 rfl) ?_
  refine lv_bipush (v := 115) hx hb dX7_addStep_15 (by decide) ?_
  refine lv_icmp_eq (tgt := 32) hx hb dX7_addStep_17 (by decide) (fun c_17 => ?_) (fun c_17 => ?_)
  · skip
    refine lv_iconst (v := 1) hx hb dX7_addStep_32 (by decide) ?_
    refine lv_goto (tgt := 37) hx hb dX7_addStep_33 (by decide) ?_
    refine lv_istore (lv' := [(4, .int 1), (0, .ref (ga g [20])), (1, .int (nI p)), (2, .int kd), (3, .int y)]) hx hb dX7_addStep_37 hl (by decide) rfl (fun ls hl => ?_)
    rcases hpa with hy | ⟨j, hj, hy, hy2⟩
    · skip
      refine lv_iload_n hx hb dX7_addStep_39 rfl (lv_at hl 4 rfl) ?_
      refine lv_iconst (v := (-1)) hx hb dX7_addStep_40 (by decide) ?_
      refine lv_icmp_eq (tgt := 66) hx hb dX7_addStep_41 (by decide) (fun _ => ?_) (fun q_ => absurd hy q_)
      refine lv_iconst (v := 1) hx hb dX7_addStep_66 (by decide) ?_
      refine lv_goto (tgt := 71) hx hb dX7_addStep_67 (by decide) ?_
      refine lv_istore (lv' := [(5, .int 1), (4, .int 1), (0, .ref (ga g [20])), (1, .int (nI p)), (2, .int kd), (3, .int y)]) hx hb dX7_addStep_71 hl (by decide) rfl (fun ls hl => ?_)
      refine lv_aload_n hx hb dX7_addStep_73 rfl (lv_at hl 2 rfl) ?_
      refine lv_iload hx hb dX7_addStep_74 (lv_at hl 1 rfl) ?_
      refine lv_if_eq (tgt := 84) hx hb dX7_addStep_76 (by decide) (fun q_ => absurd q_ (by decide)) (fun _ => ?_)
      refine lv_iload hx hb dX7_addStep_79 (lv_at hl 0 rfl) ?_
      refine lv_if_ne (tgt := 88) hx hb dX7_addStep_81 (by decide) (fun _ => ?_) (fun q_ => absurd q_ (by decide))
      refine lv_aload_n hx hb dX7_addStep_88 rfl (lv_at hl 2 rfl) ?_
      refine x_get (C := RX7) (T := TX7) (N := 24) (ci := 7) hx hb hts iu7 hown hK hH (id := [20]) (by first | trivial | (simp only [xD]; omega) | (simp [xD]; done) | (simp [xD]; omega)) rfl rfl (by decide) 9 (by decide) (hts _ tw848) (fun _ h9 => h9) rfl (v := .ref (ga g [24, 9])) rfl dX7_addStep_89 ?_
      refine lv_iload_n hx hb dX7_addStep_92 rfl (lv_at hl 3 rfl) ?_
      refine x_bald hx hb hK hH (id := [24, 9]) (by first | trivial | (simp only [xD]; omega) | (simp [xD]; done) | (simp [xD]; omega)) (L := 3) rfl rfl p rfl (by omega) (by decide) dX7_addStep_93 ?_
      refine lv_if_ne (tgt := 108) hx hb dX7_addStep_94 (by decide) (fun _ => ?_) (fun q_ => absurd q_ hu)
      refine lv_iconst (v := 3) hx hb dX7_addStep_108 (by decide) ?_
      refine lv_goto (tgt := 113) hx hb dX7_addStep_109 (by decide) ?_
      obtain ⟨I1_, hI1_⟩ : ∃ z, z = up I [20] 23 3 := ⟨_, rfl⟩
      refine x_put (C := RX7) (T := TX7) (N := 24) (ci := 7) hx hb hts iu7 tyX7 tyX7_ok nmX7 hown hK hH hS (id := [20]) (by first | trivial | (simp only [xD]; omega) | (simp [xD]; done) | (simp [xD]; omega)) rfl rfl (by decide) 23 (by decide) (hts _ tw862) (fun _ h9 => h9) (Or.inl rfl) (ty := .int) (v := .int 3) (by decide +kernel) rfl rfl (I' := I1_) (F' := (xFh h)) (fun i hi => by rw [hI1_]; exact up_id hi) (fun _ _ => rfl) (fun j9 => by rw [hI1_, up_row]; exact xv_upd (ci := 7) (k := 23) rfl j9) dX7_addStep_113 (fun H locs hH hS => ?_)
      refine lv_aload_n hx hb dX7_addStep_116 rfl (lv_at hl 2 rfl) ?_
      refine x_get (C := RX7) (T := TX7) (N := 24) (ci := 7) hx hb hts iu7 hown hK hH (id := [20]) (by first | trivial | (simp only [xD]; omega) | (simp [xD]; done) | (simp [xD]; omega)) rfl rfl (by decide) 23 (by decide) (hts _ tw862) (fun _ h9 => h9) rfl (v := .int 3) (congrArg Value.int (by rw [hI1_]; exact up_at)) dX7_addStep_117 ?_
      refine lv_if_le (tgt := 125) hx hb dX7_addStep_120 (by decide) (fun q_ => absurd q_ (by decide)) (fun _ => ?_)
      refine lv_iconst (v := 0) hx hb dX7_addStep_123 (by decide) ?_
      exact x_iret hx hb hr hlocks hS dX7_addStep_124 rfl (by rw [hI1_] at hH; exact hH)
    · skip
      subst hy
      refine lv_iload_n hx hb dX7_addStep_39 rfl (lv_at hl 4 rfl) ?_
      refine lv_iconst (v := (-1)) hx hb dX7_addStep_40 (by decide) ?_
      refine lv_icmp_eq (tgt := 66) hx hb dX7_addStep_41 (by decide) (fun q_ => absurd q_ (nI_m1 (by omega))) (fun _ => ?_)
      refine lv_aload_n hx hb dX7_addStep_44 rfl (lv_at hl 1 rfl) ?_
      refine lv_iload_n hx hb dX7_addStep_45 rfl (lv_at hl 2 rfl) ?_
      refine lv_iload_n hx hb dX7_addStep_46 rfl (lv_at hl 4 rfl) ?_
      refine x_V1 hx hb hml hown hE hS hl.1 cyX7_isStep tw936 (c_X7_isStep_1 l g h I n q hq hz p hp k hk hs ((nI j))) ⟨Nat.le_of_ble_eq_true rfl, Nat.le_of_ble_eq_true rfl⟩ ⟨Nat.le_of_ble_eq_true rfl, Nat.le_of_ble_eq_true rfl⟩ (x_recv hK hH (id := [20]) (by first | trivial | (simp only [xD]; omega) | (simp [xD]; done) | (simp [xD]; omega)) (ci := 7) rfl (by decide) rfl) hH rfl rfl (Nat.le_of_ble_eq_true rfl) dX7_addStep_47 (fun H locs hH hS => ?_)
      refine lv_if_eq (tgt := 70) hx hb dX7_addStep_50 (by decide) (fun q_ => absurd q_ (fun z_ => by rw [sIn_nI hj (by omega)] at z_; exact absurd z_ (by decide))) (fun _ => ?_)
      refine lv_aload_n hx hb dX7_addStep_53 rfl (lv_at hl 1 rfl) ?_
      refine x_get (C := RX7) (T := TX7) (N := 24) (ci := 7) hx hb hts iu7 hown hK hH (id := [20]) (by first | trivial | (simp only [xD]; omega) | (simp [xD]; done) | (simp [xD]; omega)) rfl rfl (by decide) 0 (by decide) (hts _ tw839) (fun _ h9 => h9) rfl (v := .ref (ga g [21, 0])) rfl dX7_addStep_54 ?_
      refine lv_iload_n hx hb dX7_addStep_57 rfl (lv_at hl 2 rfl) ?_
      refine x_aald hx hb hK hH (id := [21, 0]) (by first | trivial | (simp only [xD]; omega) | (simp [xD]; done) | (simp [xD]; omega)) 8 (L := 3) rfl (by decide) p rfl (by omega) (by decide) (v := .ref (ga g [22, 0, p])) (by show rq _ (if _ then _ else _) = _; rw [if_pos (show p < xLn 0 by show _ < 3; omega)]; rfl) dX7_addStep_58 ?_
      refine lv_iload_n hx hb dX7_addStep_59 rfl (lv_at hl 4 rfl) ?_
      refine x_cald hx hb hK hH (id := [22, 0, p]) (by first | trivial | (simp only [xD]; omega) | (simp [xD]; done) | (simp [xD]; omega)) (L := 8) rfl rfl j rfl (by omega) (by decide) dX7_addStep_60 ?_
      refine lv_bipush (v := 115) hx hb dX7_addStep_61 (by decide) ?_
      refine lv_icmp_ne (tgt := 70) hx hb dX7_addStep_63 (by decide) (fun q_ => absurd q_ (fun z_ => z_ hy2)) (fun _ => ?_)
      refine lv_iconst (v := 1) hx hb dX7_addStep_66 (by decide) ?_
      refine lv_goto (tgt := 71) hx hb dX7_addStep_67 (by decide) ?_
      refine lv_istore (lv' := [(5, .int 1), (4, .int 1), (0, .ref (ga g [20])), (1, .int (nI p)), (2, .int kd), (3, .int (nI j))]) hx hb dX7_addStep_71 hl (by decide) rfl (fun ls hl => ?_)
      refine lv_aload_n hx hb dX7_addStep_73 rfl (lv_at hl 2 rfl) ?_
      refine lv_iload hx hb dX7_addStep_74 (lv_at hl 1 rfl) ?_
      refine lv_if_eq (tgt := 84) hx hb dX7_addStep_76 (by decide) (fun q_ => absurd q_ (by decide)) (fun _ => ?_)
      refine lv_iload hx hb dX7_addStep_79 (lv_at hl 0 rfl) ?_
      refine lv_if_ne (tgt := 88) hx hb dX7_addStep_81 (by decide) (fun _ => ?_) (fun q_ => absurd q_ (by decide))
      refine lv_aload_n hx hb dX7_addStep_88 rfl (lv_at hl 2 rfl) ?_
      refine x_get (C := RX7) (T := TX7) (N := 24) (ci := 7) hx hb hts iu7 hown hK hH (id := [20]) (by first | trivial | (simp only [xD]; omega) | (simp [xD]; done) | (simp [xD]; omega)) rfl rfl (by decide) 9 (by decide) (hts _ tw848) (fun _ h9 => h9) rfl (v := .ref (ga g [24, 9])) rfl dX7_addStep_89 ?_
      refine lv_iload_n hx hb dX7_addStep_92 rfl (lv_at hl 3 rfl) ?_
      refine x_bald hx hb hK hH (id := [24, 9]) (by first | trivial | (simp only [xD]; omega) | (simp [xD]; done) | (simp [xD]; omega)) (L := 3) rfl rfl p rfl (by omega) (by decide) dX7_addStep_93 ?_
      refine lv_if_ne (tgt := 108) hx hb dX7_addStep_94 (by decide) (fun _ => ?_) (fun q_ => absurd q_ hu)
      refine lv_iconst (v := 3) hx hb dX7_addStep_108 (by decide) ?_
      refine lv_goto (tgt := 113) hx hb dX7_addStep_109 (by decide) ?_
      obtain ⟨I2_, hI2_⟩ : ∃ z, z = up I [20] 23 3 := ⟨_, rfl⟩
      refine x_put (C := RX7) (T := TX7) (N := 24) (ci := 7) hx hb hts iu7 tyX7 tyX7_ok nmX7 hown hK hH hS (id := [20]) (by first | trivial | (simp only [xD]; omega) | (simp [xD]; done) | (simp [xD]; omega)) rfl rfl (by decide) 23 (by decide) (hts _ tw862) (fun _ h9 => h9) (Or.inl rfl) (ty := .int) (v := .int 3) (by decide +kernel) rfl rfl (I' := I2_) (F' := (xFh h)) (fun i hi => by rw [hI2_]; exact up_id hi) (fun _ _ => rfl) (fun j9 => by rw [hI2_, up_row]; exact xv_upd (ci := 7) (k := 23) rfl j9) dX7_addStep_113 (fun H locs hH hS => ?_)
      refine lv_aload_n hx hb dX7_addStep_116 rfl (lv_at hl 2 rfl) ?_
      refine x_get (C := RX7) (T := TX7) (N := 24) (ci := 7) hx hb hts iu7 hown hK hH (id := [20]) (by first | trivial | (simp only [xD]; omega) | (simp [xD]; done) | (simp [xD]; omega)) rfl rfl (by decide) 23 (by decide) (hts _ tw862) (fun _ h9 => h9) rfl (v := .int 3) (congrArg Value.int (by rw [hI2_]; exact up_at)) dX7_addStep_117 ?_
      refine lv_if_le (tgt := 125) hx hb dX7_addStep_120 (by decide) (fun q_ => absurd q_ (by decide)) (fun _ => ?_)
      refine lv_iconst (v := 0) hx hb dX7_addStep_123 (by decide) ?_
      exact x_iret hx hb hr hlocks hS dX7_addStep_124 rfl (by rw [hI2_] at hH; exact hH)
  · skip
    refine lv_iload_n hx hb dX7_addStep_20 rfl (lv_at hl 2 rfl) ?_
    refine lv_bipush (v := 116) hx hb dX7_addStep_21 (by decide) ?_
    refine lv_icmp_eq (tgt := 32) hx hb dX7_addStep_23 (by decide) (fun c_23 => ?_) (fun c_23 => ?_)
    · skip
      refine lv_iconst (v := 1) hx hb dX7_addStep_32 (by decide) ?_
      refine lv_goto (tgt := 37) hx hb dX7_addStep_33 (by decide) ?_
      refine lv_istore (lv' := [(4, .int 1), (0, .ref (ga g [20])), (1, .int (nI p)), (2, .int kd), (3, .int y)]) hx hb dX7_addStep_37 hl (by decide) rfl (fun ls hl => ?_)
      rcases hpa with hy | ⟨j, hj, hy, hy2⟩
      · skip
        refine lv_iload_n hx hb dX7_addStep_39 rfl (lv_at hl 4 rfl) ?_
        refine lv_iconst (v := (-1)) hx hb dX7_addStep_40 (by decide) ?_
        refine lv_icmp_eq (tgt := 66) hx hb dX7_addStep_41 (by decide) (fun _ => ?_) (fun q_ => absurd hy q_)
        refine lv_iconst (v := 1) hx hb dX7_addStep_66 (by decide) ?_
        refine lv_goto (tgt := 71) hx hb dX7_addStep_67 (by decide) ?_
        refine lv_istore (lv' := [(5, .int 1), (4, .int 1), (0, .ref (ga g [20])), (1, .int (nI p)), (2, .int kd), (3, .int y)]) hx hb dX7_addStep_71 hl (by decide) rfl (fun ls hl => ?_)
        refine lv_aload_n hx hb dX7_addStep_73 rfl (lv_at hl 2 rfl) ?_
        refine lv_iload hx hb dX7_addStep_74 (lv_at hl 1 rfl) ?_
        refine lv_if_eq (tgt := 84) hx hb dX7_addStep_76 (by decide) (fun q_ => absurd q_ (by decide)) (fun _ => ?_)
        refine lv_iload hx hb dX7_addStep_79 (lv_at hl 0 rfl) ?_
        refine lv_if_ne (tgt := 88) hx hb dX7_addStep_81 (by decide) (fun _ => ?_) (fun q_ => absurd q_ (by decide))
        refine lv_aload_n hx hb dX7_addStep_88 rfl (lv_at hl 2 rfl) ?_
        refine x_get (C := RX7) (T := TX7) (N := 24) (ci := 7) hx hb hts iu7 hown hK hH (id := [20]) (by first | trivial | (simp only [xD]; omega) | (simp [xD]; done) | (simp [xD]; omega)) rfl rfl (by decide) 9 (by decide) (hts _ tw848) (fun _ h9 => h9) rfl (v := .ref (ga g [24, 9])) rfl dX7_addStep_89 ?_
        refine lv_iload_n hx hb dX7_addStep_92 rfl (lv_at hl 3 rfl) ?_
        refine x_bald hx hb hK hH (id := [24, 9]) (by first | trivial | (simp only [xD]; omega) | (simp [xD]; done) | (simp [xD]; omega)) (L := 3) rfl rfl p rfl (by omega) (by decide) dX7_addStep_93 ?_
        refine lv_if_ne (tgt := 108) hx hb dX7_addStep_94 (by decide) (fun _ => ?_) (fun q_ => absurd q_ hu)
        refine lv_iconst (v := 3) hx hb dX7_addStep_108 (by decide) ?_
        refine lv_goto (tgt := 113) hx hb dX7_addStep_109 (by decide) ?_
        obtain ⟨I3_, hI3_⟩ : ∃ z, z = up I [20] 23 3 := ⟨_, rfl⟩
        refine x_put (C := RX7) (T := TX7) (N := 24) (ci := 7) hx hb hts iu7 tyX7 tyX7_ok nmX7 hown hK hH hS (id := [20]) (by first | trivial | (simp only [xD]; omega) | (simp [xD]; done) | (simp [xD]; omega)) rfl rfl (by decide) 23 (by decide) (hts _ tw862) (fun _ h9 => h9) (Or.inl rfl) (ty := .int) (v := .int 3) (by decide +kernel) rfl rfl (I' := I3_) (F' := (xFh h)) (fun i hi => by rw [hI3_]; exact up_id hi) (fun _ _ => rfl) (fun j9 => by rw [hI3_, up_row]; exact xv_upd (ci := 7) (k := 23) rfl j9) dX7_addStep_113 (fun H locs hH hS => ?_)
        refine lv_aload_n hx hb dX7_addStep_116 rfl (lv_at hl 2 rfl) ?_
        refine x_get (C := RX7) (T := TX7) (N := 24) (ci := 7) hx hb hts iu7 hown hK hH (id := [20]) (by first | trivial | (simp only [xD]; omega) | (simp [xD]; done) | (simp [xD]; omega)) rfl rfl (by decide) 23 (by decide) (hts _ tw862) (fun _ h9 => h9) rfl (v := .int 3) (congrArg Value.int (by rw [hI3_]; exact up_at)) dX7_addStep_117 ?_
        refine lv_if_le (tgt := 125) hx hb dX7_addStep_120 (by decide) (fun q_ => absurd q_ (by decide)) (fun _ => ?_)
        refine lv_iconst (v := 0) hx hb dX7_addStep_123 (by decide) ?_
        exact x_iret hx hb hr hlocks hS dX7_addStep_124 rfl (by rw [hI3_] at hH; exact hH)
      · skip
        subst hy
        refine lv_iload_n hx hb dX7_addStep_39 rfl (lv_at hl 4 rfl) ?_
        refine lv_iconst (v := (-1)) hx hb dX7_addStep_40 (by decide) ?_
        refine lv_icmp_eq (tgt := 66) hx hb dX7_addStep_41 (by decide) (fun q_ => absurd q_ (nI_m1 (by omega))) (fun _ => ?_)
        refine lv_aload_n hx hb dX7_addStep_44 rfl (lv_at hl 1 rfl) ?_
        refine lv_iload_n hx hb dX7_addStep_45 rfl (lv_at hl 2 rfl) ?_
        refine lv_iload_n hx hb dX7_addStep_46 rfl (lv_at hl 4 rfl) ?_
        refine x_V1 hx hb hml hown hE hS hl.1 cyX7_isStep tw936 (c_X7_isStep_1 l g h I n q hq hz p hp k hk hs ((nI j))) ⟨Nat.le_of_ble_eq_true rfl, Nat.le_of_ble_eq_true rfl⟩ ⟨Nat.le_of_ble_eq_true rfl, Nat.le_of_ble_eq_true rfl⟩ (x_recv hK hH (id := [20]) (by first | trivial | (simp only [xD]; omega) | (simp [xD]; done) | (simp [xD]; omega)) (ci := 7) rfl (by decide) rfl) hH rfl rfl (Nat.le_of_ble_eq_true rfl) dX7_addStep_47 (fun H locs hH hS => ?_)
        refine lv_if_eq (tgt := 70) hx hb dX7_addStep_50 (by decide) (fun q_ => absurd q_ (fun z_ => by rw [sIn_nI hj (by omega)] at z_; exact absurd z_ (by decide))) (fun _ => ?_)
        refine lv_aload_n hx hb dX7_addStep_53 rfl (lv_at hl 1 rfl) ?_
        refine x_get (C := RX7) (T := TX7) (N := 24) (ci := 7) hx hb hts iu7 hown hK hH (id := [20]) (by first | trivial | (simp only [xD]; omega) | (simp [xD]; done) | (simp [xD]; omega)) rfl rfl (by decide) 0 (by decide) (hts _ tw839) (fun _ h9 => h9) rfl (v := .ref (ga g [21, 0])) rfl dX7_addStep_54 ?_
        refine lv_iload_n hx hb dX7_addStep_57 rfl (lv_at hl 2 rfl) ?_
        refine x_aald hx hb hK hH (id := [21, 0]) (by first | trivial | (simp only [xD]; omega) | (simp [xD]; done) | (simp [xD]; omega)) 8 (L := 3) rfl (by decide) p rfl (by omega) (by decide) (v := .ref (ga g [22, 0, p])) (by show rq _ (if _ then _ else _) = _; rw [if_pos (show p < xLn 0 by show _ < 3; omega)]; rfl) dX7_addStep_58 ?_
        refine lv_iload_n hx hb dX7_addStep_59 rfl (lv_at hl 4 rfl) ?_
        refine x_cald hx hb hK hH (id := [22, 0, p]) (by first | trivial | (simp only [xD]; omega) | (simp [xD]; done) | (simp [xD]; omega)) (L := 8) rfl rfl j rfl (by omega) (by decide) dX7_addStep_60 ?_
        refine lv_bipush (v := 115) hx hb dX7_addStep_61 (by decide) ?_
        refine lv_icmp_ne (tgt := 70) hx hb dX7_addStep_63 (by decide) (fun q_ => absurd q_ (fun z_ => z_ hy2)) (fun _ => ?_)
        refine lv_iconst (v := 1) hx hb dX7_addStep_66 (by decide) ?_
        refine lv_goto (tgt := 71) hx hb dX7_addStep_67 (by decide) ?_
        refine lv_istore (lv' := [(5, .int 1), (4, .int 1), (0, .ref (ga g [20])), (1, .int (nI p)), (2, .int kd), (3, .int (nI j))]) hx hb dX7_addStep_71 hl (by decide) rfl (fun ls hl => ?_)
        refine lv_aload_n hx hb dX7_addStep_73 rfl (lv_at hl 2 rfl) ?_
        refine lv_iload hx hb dX7_addStep_74 (lv_at hl 1 rfl) ?_
        refine lv_if_eq (tgt := 84) hx hb dX7_addStep_76 (by decide) (fun q_ => absurd q_ (by decide)) (fun _ => ?_)
        refine lv_iload hx hb dX7_addStep_79 (lv_at hl 0 rfl) ?_
        refine lv_if_ne (tgt := 88) hx hb dX7_addStep_81 (by decide) (fun _ => ?_) (fun q_ => absurd q_ (by decide))
        refine lv_aload_n hx hb dX7_addStep_88 rfl (lv_at hl 2 rfl) ?_
        refine x_get (C := RX7) (T := TX7) (N := 24) (ci := 7) hx hb hts iu7 hown hK hH (id := [20]) (by first | trivial | (simp only [xD]; omega) | (simp [xD]; done) | (simp [xD]; omega)) rfl rfl (by decide) 9 (by decide) (hts _ tw848) (fun _ h9 => h9) rfl (v := .ref (ga g [24, 9])) rfl dX7_addStep_89 ?_
        refine lv_iload_n hx hb dX7_addStep_92 rfl (lv_at hl 3 rfl) ?_
        refine x_bald hx hb hK hH (id := [24, 9]) (by first | trivial | (simp only [xD]; omega) | (simp [xD]; done) | (simp [xD]; omega)) (L := 3) rfl rfl p rfl (by omega) (by decide) dX7_addStep_93 ?_
        refine lv_if_ne (tgt := 108) hx hb dX7_addStep_94 (by decide) (fun _ => ?_) (fun q_ => absurd q_ hu)
        refine lv_iconst (v := 3) hx hb dX7_addStep_108 (by decide) ?_
        refine lv_goto (tgt := 113) hx hb dX7_addStep_109 (by decide) ?_
        obtain ⟨I4_, hI4_⟩ : ∃ z, z = up I [20] 23 3 := ⟨_, rfl⟩
        refine x_put (C := RX7) (T := TX7) (N := 24) (ci := 7) hx hb hts iu7 tyX7 tyX7_ok nmX7 hown hK hH hS (id := [20]) (by first | trivial | (simp only [xD]; omega) | (simp [xD]; done) | (simp [xD]; omega)) rfl rfl (by decide) 23 (by decide) (hts _ tw862) (fun _ h9 => h9) (Or.inl rfl) (ty := .int) (v := .int 3) (by decide +kernel) rfl rfl (I' := I4_) (F' := (xFh h)) (fun i hi => by rw [hI4_]; exact up_id hi) (fun _ _ => rfl) (fun j9 => by rw [hI4_, up_row]; exact xv_upd (ci := 7) (k := 23) rfl j9) dX7_addStep_113 (fun H locs hH hS => ?_)
        refine lv_aload_n hx hb dX7_addStep_116 rfl (lv_at hl 2 rfl) ?_
        refine x_get (C := RX7) (T := TX7) (N := 24) (ci := 7) hx hb hts iu7 hown hK hH (id := [20]) (by first | trivial | (simp only [xD]; omega) | (simp [xD]; done) | (simp [xD]; omega)) rfl rfl (by decide) 23 (by decide) (hts _ tw862) (fun _ h9 => h9) rfl (v := .int 3) (congrArg Value.int (by rw [hI4_]; exact up_at)) dX7_addStep_117 ?_
        refine lv_if_le (tgt := 125) hx hb dX7_addStep_120 (by decide) (fun q_ => absurd q_ (by decide)) (fun _ => ?_)
        refine lv_iconst (v := 0) hx hb dX7_addStep_123 (by decide) ?_
        exact x_iret hx hb hr hlocks hS dX7_addStep_124 rfl (by rw [hI4_] at hH; exact hH)
    · skip
      refine lv_iload_n hx hb dX7_addStep_26 rfl (lv_at hl 2 rfl) ?_
      refine lv_bipush (v := 109) hx hb dX7_addStep_27 (by decide) ?_
      refine lv_icmp_ne (tgt := 36) hx hb dX7_addStep_29 (by decide) (fun q_ => absurd q_ (fun z_ => z_ ((hkd.resolve_left c_17).resolve_left c_23))) (fun _ => ?_)
      refine lv_iconst (v := 1) hx hb dX7_addStep_32 (by decide) ?_
      refine lv_goto (tgt := 37) hx hb dX7_addStep_33 (by decide) ?_
      refine lv_istore (lv' := [(4, .int 1), (0, .ref (ga g [20])), (1, .int (nI p)), (2, .int kd), (3, .int y)]) hx hb dX7_addStep_37 hl (by decide) rfl (fun ls hl => ?_)
      rcases hpa with hy | ⟨j, hj, hy, hy2⟩
      · skip
        refine lv_iload_n hx hb dX7_addStep_39 rfl (lv_at hl 4 rfl) ?_
        refine lv_iconst (v := (-1)) hx hb dX7_addStep_40 (by decide) ?_
        refine lv_icmp_eq (tgt := 66) hx hb dX7_addStep_41 (by decide) (fun _ => ?_) (fun q_ => absurd hy q_)
        refine lv_iconst (v := 1) hx hb dX7_addStep_66 (by decide) ?_
        refine lv_goto (tgt := 71) hx hb dX7_addStep_67 (by decide) ?_
        refine lv_istore (lv' := [(5, .int 1), (4, .int 1), (0, .ref (ga g [20])), (1, .int (nI p)), (2, .int kd), (3, .int y)]) hx hb dX7_addStep_71 hl (by decide) rfl (fun ls hl => ?_)
        refine lv_aload_n hx hb dX7_addStep_73 rfl (lv_at hl 2 rfl) ?_
        refine lv_iload hx hb dX7_addStep_74 (lv_at hl 1 rfl) ?_
        refine lv_if_eq (tgt := 84) hx hb dX7_addStep_76 (by decide) (fun q_ => absurd q_ (by decide)) (fun _ => ?_)
        refine lv_iload hx hb dX7_addStep_79 (lv_at hl 0 rfl) ?_
        refine lv_if_ne (tgt := 88) hx hb dX7_addStep_81 (by decide) (fun _ => ?_) (fun q_ => absurd q_ (by decide))
        refine lv_aload_n hx hb dX7_addStep_88 rfl (lv_at hl 2 rfl) ?_
        refine x_get (C := RX7) (T := TX7) (N := 24) (ci := 7) hx hb hts iu7 hown hK hH (id := [20]) (by first | trivial | (simp only [xD]; omega) | (simp [xD]; done) | (simp [xD]; omega)) rfl rfl (by decide) 9 (by decide) (hts _ tw848) (fun _ h9 => h9) rfl (v := .ref (ga g [24, 9])) rfl dX7_addStep_89 ?_
        refine lv_iload_n hx hb dX7_addStep_92 rfl (lv_at hl 3 rfl) ?_
        refine x_bald hx hb hK hH (id := [24, 9]) (by first | trivial | (simp only [xD]; omega) | (simp [xD]; done) | (simp [xD]; omega)) (L := 3) rfl rfl p rfl (by omega) (by decide) dX7_addStep_93 ?_
        refine lv_if_ne (tgt := 108) hx hb dX7_addStep_94 (by decide) (fun _ => ?_) (fun q_ => absurd q_ hu)
        refine lv_iconst (v := 3) hx hb dX7_addStep_108 (by decide) ?_
        refine lv_goto (tgt := 113) hx hb dX7_addStep_109 (by decide) ?_
        obtain ⟨I5_, hI5_⟩ : ∃ z, z = up I [20] 23 3 := ⟨_, rfl⟩
        refine x_put (C := RX7) (T := TX7) (N := 24) (ci := 7) hx hb hts iu7 tyX7 tyX7_ok nmX7 hown hK hH hS (id := [20]) (by first | trivial | (simp only [xD]; omega) | (simp [xD]; done) | (simp [xD]; omega)) rfl rfl (by decide) 23 (by decide) (hts _ tw862) (fun _ h9 => h9) (Or.inl rfl) (ty := .int) (v := .int 3) (by decide +kernel) rfl rfl (I' := I5_) (F' := (xFh h)) (fun i hi => by rw [hI5_]; exact up_id hi) (fun _ _ => rfl) (fun j9 => by rw [hI5_, up_row]; exact xv_upd (ci := 7) (k := 23) rfl j9) dX7_addStep_113 (fun H locs hH hS => ?_)
        refine lv_aload_n hx hb dX7_addStep_116 rfl (lv_at hl 2 rfl) ?_
        refine x_get (C := RX7) (T := TX7) (N := 24) (ci := 7) hx hb hts iu7 hown hK hH (id := [20]) (by first | trivial | (simp only [xD]; omega) | (simp [xD]; done) | (simp [xD]; omega)) rfl rfl (by decide) 23 (by decide) (hts _ tw862) (fun _ h9 => h9) rfl (v := .int 3) (congrArg Value.int (by rw [hI5_]; exact up_at)) dX7_addStep_117 ?_
        refine lv_if_le (tgt := 125) hx hb dX7_addStep_120 (by decide) (fun q_ => absurd q_ (by decide)) (fun _ => ?_)
        refine lv_iconst (v := 0) hx hb dX7_addStep_123 (by decide) ?_
        exact x_iret hx hb hr hlocks hS dX7_addStep_124 rfl (by rw [hI5_] at hH; exact hH)
      · skip
        subst hy
        refine lv_iload_n hx hb dX7_addStep_39 rfl (lv_at hl 4 rfl) ?_
        refine lv_iconst (v := (-1)) hx hb dX7_addStep_40 (by decide) ?_
        refine lv_icmp_eq (tgt := 66) hx hb dX7_addStep_41 (by decide) (fun q_ => absurd q_ (nI_m1 (by omega))) (fun _ => ?_)
        refine lv_aload_n hx hb dX7_addStep_44 rfl (lv_at hl 1 rfl) ?_
        refine lv_iload_n hx hb dX7_addStep_45 rfl (lv_at hl 2 rfl) ?_
        refine lv_iload_n hx hb dX7_addStep_46 rfl (lv_at hl 4 rfl) ?_
        refine x_V1 hx hb hml hown hE hS hl.1 cyX7_isStep tw936 (c_X7_isStep_1 l g h I n q hq hz p hp k hk hs ((nI j))) ⟨Nat.le_of_ble_eq_true rfl, Nat.le_of_ble_eq_true rfl⟩ ⟨Nat.le_of_ble_eq_true rfl, Nat.le_of_ble_eq_true rfl⟩ (x_recv hK hH (id := [20]) (by first | trivial | (simp only [xD]; omega) | (simp [xD]; done) | (simp [xD]; omega)) (ci := 7) rfl (by decide) rfl) hH rfl rfl (Nat.le_of_ble_eq_true rfl) dX7_addStep_47 (fun H locs hH hS => ?_)
        refine lv_if_eq (tgt := 70) hx hb dX7_addStep_50 (by decide) (fun q_ => absurd q_ (fun z_ => by rw [sIn_nI hj (by omega)] at z_; exact absurd z_ (by decide))) (fun _ => ?_)
        refine lv_aload_n hx hb dX7_addStep_53 rfl (lv_at hl 1 rfl) ?_
        refine x_get (C := RX7) (T := TX7) (N := 24) (ci := 7) hx hb hts iu7 hown hK hH (id := [20]) (by first | trivial | (simp only [xD]; omega) | (simp [xD]; done) | (simp [xD]; omega)) rfl rfl (by decide) 0 (by decide) (hts _ tw839) (fun _ h9 => h9) rfl (v := .ref (ga g [21, 0])) rfl dX7_addStep_54 ?_
        refine lv_iload_n hx hb dX7_addStep_57 rfl (lv_at hl 2 rfl) ?_
        refine x_aald hx hb hK hH (id := [21, 0]) (by first | trivial | (simp only [xD]; omega) | (simp [xD]; done) | (simp [xD]; omega)) 8 (L := 3) rfl (by decide) p rfl (by omega) (by decide) (v := .ref (ga g [22, 0, p])) (by show rq _ (if _ then _ else _) = _; rw [if_pos (show p < xLn 0 by show _ < 3; omega)]; rfl) dX7_addStep_58 ?_
        refine lv_iload_n hx hb dX7_addStep_59 rfl (lv_at hl 4 rfl) ?_
        refine x_cald hx hb hK hH (id := [22, 0, p]) (by first | trivial | (simp only [xD]; omega) | (simp [xD]; done) | (simp [xD]; omega)) (L := 8) rfl rfl j rfl (by omega) (by decide) dX7_addStep_60 ?_
        refine lv_bipush (v := 115) hx hb dX7_addStep_61 (by decide) ?_
        refine lv_icmp_ne (tgt := 70) hx hb dX7_addStep_63 (by decide) (fun q_ => absurd q_ (fun z_ => z_ hy2)) (fun _ => ?_)
        refine lv_iconst (v := 1) hx hb dX7_addStep_66 (by decide) ?_
        refine lv_goto (tgt := 71) hx hb dX7_addStep_67 (by decide) ?_
        refine lv_istore (lv' := [(5, .int 1), (4, .int 1), (0, .ref (ga g [20])), (1, .int (nI p)), (2, .int kd), (3, .int (nI j))]) hx hb dX7_addStep_71 hl (by decide) rfl (fun ls hl => ?_)
        refine lv_aload_n hx hb dX7_addStep_73 rfl (lv_at hl 2 rfl) ?_
        refine lv_iload hx hb dX7_addStep_74 (lv_at hl 1 rfl) ?_
        refine lv_if_eq (tgt := 84) hx hb dX7_addStep_76 (by decide) (fun q_ => absurd q_ (by decide)) (fun _ => ?_)
        refine lv_iload hx hb dX7_addStep_79 (lv_at hl 0 rfl) ?_
        refine lv_if_ne (tgt := 88) hx hb dX7_addStep_81 (by decide) (fun _ => ?_) (fun q_ => absurd q_ (by decide))
        refine lv_aload_n hx hb dX7_addStep_88 rfl (lv_at hl 2 rfl) ?_
        refine x_get (C := RX7) (T := TX7) (N := 24) (ci := 7) hx hb hts iu7 hown hK hH (id := [20]) (by first | trivial | (simp only [xD]; omega) | (simp [xD]; done) | (simp [xD]; omega)) rfl rfl (by decide) 9 (by decide) (hts _ tw848) (fun _ h9 => h9) rfl (v := .ref (ga g [24, 9])) rfl dX7_addStep_89 ?_
        refine lv_iload_n hx hb dX7_addStep_92 rfl (lv_at hl 3 rfl) ?_
        refine x_bald hx hb hK hH (id := [24, 9]) (by first | trivial | (simp only [xD]; omega) | (simp [xD]; done) | (simp [xD]; omega)) (L := 3) rfl rfl p rfl (by omega) (by decide) dX7_addStep_93 ?_
        refine lv_if_ne (tgt := 108) hx hb dX7_addStep_94 (by decide) (fun _ => ?_) (fun q_ => absurd q_ hu)
        refine lv_iconst (v := 3) hx hb dX7_addStep_108 (by decide) ?_
        refine lv_goto (tgt := 113) hx hb dX7_addStep_109 (by decide) ?_
        obtain ⟨I6_, hI6_⟩ : ∃ z, z = up I [20] 23 3 := ⟨_, rfl⟩
        refine x_put (C := RX7) (T := TX7) (N := 24) (ci := 7) hx hb hts iu7 tyX7 tyX7_ok nmX7 hown hK hH hS (id := [20]) (by first | trivial | (simp only [xD]; omega) | (simp [xD]; done) | (simp [xD]; omega)) rfl rfl (by decide) 23 (by decide) (hts _ tw862) (fun _ h9 => h9) (Or.inl rfl) (ty := .int) (v := .int 3) (by decide +kernel) rfl rfl (I' := I6_) (F' := (xFh h)) (fun i hi => by rw [hI6_]; exact up_id hi) (fun _ _ => rfl) (fun j9 => by rw [hI6_, up_row]; exact xv_upd (ci := 7) (k := 23) rfl j9) dX7_addStep_113 (fun H locs hH hS => ?_)
        refine lv_aload_n hx hb dX7_addStep_116 rfl (lv_at hl 2 rfl) ?_
        refine x_get (C := RX7) (T := TX7) (N := 24) (ci := 7) hx hb hts iu7 hown hK hH (id := [20]) (by first | trivial | (simp only [xD]; omega) | (simp [xD]; done) | (simp [xD]; omega)) rfl rfl (by decide) 23 (by decide) (hts _ tw862) (fun _ h9 => h9) rfl (v := .int 3) (congrArg Value.int (by rw [hI6_]; exact up_at)) dX7_addStep_117 ?_
        refine lv_if_le (tgt := 125) hx hb dX7_addStep_120 (by decide) (fun q_ => absurd q_ (by decide)) (fun _ => ?_)
        refine lv_iconst (v := 0) hx hb dX7_addStep_123 (by decide) ?_
        exact x_iret hx hb hr hlocks hS dX7_addStep_124 rfl (by rw [hI6_] at hH; exact hH)

set_option maxHeartbeats 1000000 in
set_option maxRecDepth 100000 in
theorem c_X7_addStep_f (l : Launch) (g : xG) (h : xS) (I : xI) (n : Nat) (q : Nat) (hq : q ≤ 3) (hz : I [20] 10 = nI q) (p : Nat) (hp : p < q) (k : Nat) (hk : k ≤ 8) (hs : I [24, 8] p = nI k) (kd y : Int32) (hkd : kd = 115 ∨ kd = 116 ∨ kd = 109) (hpa : y = -1 ∨ (∃ j : Nat, j < k ∧ y = nI j ∧ I [22, 0, p] j = 115)) (hu : I [24, 9] p = 0) (h8 : k = 8) : xM l yX7_addStep (xws yX7_addStep cX7_addStep 7 (some FieldType.int)) 4 77 g [.ref (ga g [20]), .int (nI p), .int kd, .int y] (xR g (xD h) I (xFh h) n) (some (.int 0)) (xR g (xD h) (up I [20] 23 3) (xFh h) n) 0 0 := by
  refine xM.of (by decide) (Nat.le_of_ble_eq_true rfl) ?_
  intro P_ e_ s m_ bl_ mt_ cd_ ls hx hb hr hown hlocks hml hnm hE hK hts hH hS hl
  have hl : lv_has ls 7 [(0, .ref (ga g [20])), (1, .int (nI p)), (2, .int kd), (3, .int y)] := hl
  refine lv_aload_n hx hb dX7_addStep_0 rfl (lv_at hl 0 rfl) ?_
  refine lv_iload_n hx hb dX7_addStep_1 rfl (lv_at hl 1 rfl) ?_
  refine x_V1 hx hb hml hown hE hS hl.1 cyX7_isPlan tw929 (c_X7_isPlan l g h I n ((nI p)) q (by omega) hz) ⟨Nat.le_of_ble_eq_true rfl, Nat.le_of_ble_eq_true rfl⟩ ⟨Nat.le_of_ble_eq_true rfl, Nat.le_of_ble_eq_true rfl⟩ (x_recv hK hH (id := [20]) (by first | trivial | (simp only [xD]; omega) | (simp [xD]; done) | (simp [xD]; omega)) (ci := 7) rfl (by decide) rfl) hH rfl rfl (Nat.le_of_ble_eq_true rfl) dX7_addStep_2 (fun H locs hH hS => ?_)
  refine lv_if_ne (tgt := 14) hx hb dX7_addStep_5 (by decide) (fun _ => ?_) (fun q_ => absurd q_ (fun z_ => by rw [sIn_nI hp (by omega)] at z_; exact absurd z_ (by decide)))
  refine lv_iload_n hx hb dX7_addStep_14 rfl (lv_at hl 2 rfl) ?_
  refine lv_bipush (v := 115) hx hb dX7_addStep_15 (by decide) ?_
  refine lv_icmp_eq (tgt := 32) hx hb dX7_addStep_17 (by decide) (fun c_17 => ?_) (fun c_17 => ?_)
  · skip
    refine lv_iconst (v := 1) hx hb dX7_addStep_32 (by decide) ?_
    refine lv_goto (tgt := 37) hx hb dX7_addStep_33 (by decide) ?_
    refine lv_istore (lv' := [(4, .int 1), (0, .ref (ga g [20])), (1, .int (nI p)), (2, .int kd), (3, .int y)]) hx hb dX7_addStep_37 hl (by decide) rfl (fun ls hl => ?_)
    rcases hpa with hy | ⟨j, hj, hy, hy2⟩
    · skip
      refine lv_iload_n hx hb dX7_addStep_39 rfl (lv_at hl 4 rfl) ?_
      refine lv_iconst (v := (-1)) hx hb dX7_addStep_40 (by decide) ?_
      refine lv_icmp_eq (tgt := 66) hx hb dX7_addStep_41 (by decide) (fun _ => ?_) (fun q_ => absurd hy q_)
      refine lv_iconst (v := 1) hx hb dX7_addStep_66 (by decide) ?_
      refine lv_goto (tgt := 71) hx hb dX7_addStep_67 (by decide) ?_
      refine lv_istore (lv' := [(5, .int 1), (4, .int 1), (0, .ref (ga g [20])), (1, .int (nI p)), (2, .int kd), (3, .int y)]) hx hb dX7_addStep_71 hl (by decide) rfl (fun ls hl => ?_)
      refine lv_aload_n hx hb dX7_addStep_73 rfl (lv_at hl 2 rfl) ?_
      refine lv_iload hx hb dX7_addStep_74 (lv_at hl 1 rfl) ?_
      refine lv_if_eq (tgt := 84) hx hb dX7_addStep_76 (by decide) (fun q_ => absurd q_ (by decide)) (fun _ => ?_)
      refine lv_iload hx hb dX7_addStep_79 (lv_at hl 0 rfl) ?_
      refine lv_if_ne (tgt := 88) hx hb dX7_addStep_81 (by decide) (fun _ => ?_) (fun q_ => absurd q_ (by decide))
      refine lv_aload_n hx hb dX7_addStep_88 rfl (lv_at hl 2 rfl) ?_
      refine x_get (C := RX7) (T := TX7) (N := 24) (ci := 7) hx hb hts iu7 hown hK hH (id := [20]) (by first | trivial | (simp only [xD]; omega) | (simp [xD]; done) | (simp [xD]; omega)) rfl rfl (by decide) 9 (by decide) (hts _ tw848) (fun _ h9 => h9) rfl (v := .ref (ga g [24, 9])) rfl dX7_addStep_89 ?_
      refine lv_iload_n hx hb dX7_addStep_92 rfl (lv_at hl 3 rfl) ?_
      refine x_bald hx hb hK hH (id := [24, 9]) (by first | trivial | (simp only [xD]; omega) | (simp [xD]; done) | (simp [xD]; omega)) (L := 3) rfl rfl p rfl (by omega) (by decide) dX7_addStep_93 ?_
      refine lv_if_ne (tgt := 108) hx hb dX7_addStep_94 (by decide) (fun q_ => absurd q_ (fun z_ => z_ hu)) (fun _ => ?_)
      refine lv_aload_n hx hb dX7_addStep_97 rfl (lv_at hl 2 rfl) ?_
      refine x_get (C := RX7) (T := TX7) (N := 24) (ci := 7) hx hb hts iu7 hown hK hH (id := [20]) (by first | trivial | (simp only [xD]; omega) | (simp [xD]; done) | (simp [xD]; omega)) rfl rfl (by decide) 8 (by decide) (hts _ tw847) (fun _ h9 => h9) rfl (v := .ref (ga g [24, 8])) rfl dX7_addStep_98 ?_
      refine lv_iload_n hx hb dX7_addStep_101 rfl (lv_at hl 3 rfl) ?_
      refine x_iald hx hb hK hH (id := [24, 8]) (by first | trivial | (simp only [xD]; omega) | (simp [xD]; done) | (simp [xD]; omega)) (L := 3) rfl rfl p rfl (by omega) (by decide) dX7_addStep_102 ?_
      rw [show (I [24, 8] p) = (nI k) from (hs)]
      refine lv_bipush (v := 8) hx hb dX7_addStep_103 (by decide) ?_
      refine lv_icmp_ne (tgt := 112) hx hb dX7_addStep_105 (by decide) (fun q_ => absurd q_ (fun z_ => z_ ((nI_eq (a := k) (b := 8) (by omega) (by omega)).mpr (by omega)))) (fun _ => ?_)
      refine lv_iconst (v := 3) hx hb dX7_addStep_108 (by decide) ?_
      refine lv_goto (tgt := 113) hx hb dX7_addStep_109 (by decide) ?_
      obtain ⟨I1_, hI1_⟩ : ∃ z, z = up I [20] 23 3 := ⟨_, rfl⟩
      refine x_put (C := RX7) (T := TX7) (N := 24) (ci := 7) hx hb hts iu7 tyX7 tyX7_ok nmX7 hown hK hH hS (id := [20]) (by first | trivial | (simp only [xD]; omega) | (simp [xD]; done) | (simp [xD]; omega)) rfl rfl (by decide) 23 (by decide) (hts _ tw862) (fun _ h9 => h9) (Or.inl rfl) (ty := .int) (v := .int 3) (by decide +kernel) rfl rfl (I' := I1_) (F' := (xFh h)) (fun i hi => by rw [hI1_]; exact up_id hi) (fun _ _ => rfl) (fun j9 => by rw [hI1_, up_row]; exact xv_upd (ci := 7) (k := 23) rfl j9) dX7_addStep_113 (fun H locs hH hS => ?_)
      refine lv_aload_n hx hb dX7_addStep_116 rfl (lv_at hl 2 rfl) ?_
      refine x_get (C := RX7) (T := TX7) (N := 24) (ci := 7) hx hb hts iu7 hown hK hH (id := [20]) (by first | trivial | (simp only [xD]; omega) | (simp [xD]; done) | (simp [xD]; omega)) rfl rfl (by decide) 23 (by decide) (hts _ tw862) (fun _ h9 => h9) rfl (v := .int 3) (congrArg Value.int (by rw [hI1_]; exact up_at)) dX7_addStep_117 ?_
      refine lv_if_le (tgt := 125) hx hb dX7_addStep_120 (by decide) (fun q_ => absurd q_ (by decide)) (fun _ => ?_)
      refine lv_iconst (v := 0) hx hb dX7_addStep_123 (by decide) ?_
      exact x_iret hx hb hr hlocks hS dX7_addStep_124 rfl (by rw [hI1_] at hH; exact hH)
    · skip
      subst hy
      refine lv_iload_n hx hb dX7_addStep_39 rfl (lv_at hl 4 rfl) ?_
      refine lv_iconst (v := (-1)) hx hb dX7_addStep_40 (by decide) ?_
      refine lv_icmp_eq (tgt := 66) hx hb dX7_addStep_41 (by decide) (fun q_ => absurd q_ (nI_m1 (by omega))) (fun _ => ?_)
      refine lv_aload_n hx hb dX7_addStep_44 rfl (lv_at hl 1 rfl) ?_
      refine lv_iload_n hx hb dX7_addStep_45 rfl (lv_at hl 2 rfl) ?_
      refine lv_iload_n hx hb dX7_addStep_46 rfl (lv_at hl 4 rfl) ?_
      refine x_V1 hx hb hml hown hE hS hl.1 cyX7_isStep tw936 (c_X7_isStep_1 l g h I n q hq hz p hp k hk hs ((nI j))) ⟨Nat.le_of_ble_eq_true rfl, Nat.le_of_ble_eq_true rfl⟩ ⟨Nat.le_of_ble_eq_true rfl, Nat.le_of_ble_eq_true rfl⟩ (x_recv hK hH (id := [20]) (by first | trivial | (simp only [xD]; omega) | (simp [xD]; done) | (simp [xD]; omega)) (ci := 7) rfl (by decide) rfl) hH rfl rfl (Nat.le_of_ble_eq_true rfl) dX7_addStep_47 (fun H locs hH hS => ?_)
      refine lv_if_eq (tgt := 70) hx hb dX7_addStep_50 (by decide) (fun q_ => absurd q_ (fun z_ => by rw [sIn_nI hj (by omega)] at z_; exact absurd z_ (by decide))) (fun _ => ?_)
      refine lv_aload_n hx hb dX7_addStep_53 rfl (lv_at hl 1 rfl) ?_
      refine x_get (C := RX7) (T := TX7) (N := 24) (ci := 7) hx hb hts iu7 hown hK hH (id := [20]) (by first | trivial | (simp only [xD]; omega) | (simp [xD]; done) | (simp [xD]; omega)) rfl rfl (by decide) 0 (by decide) (hts _ tw839) (fun _ h9 => h9) rfl (v := .ref (ga g [21, 0])) rfl dX7_addStep_54 ?_
      refine lv_iload_n hx hb dX7_addStep_57 rfl (lv_at hl 2 rfl) ?_
      refine x_aald hx hb hK hH (id := [21, 0]) (by first | trivial | (simp only [xD]; omega) | (simp [xD]; done) | (simp [xD]; omega)) 8 (L := 3) rfl (by decide) p rfl (by omega) (by decide) (v := .ref (ga g [22, 0, p])) (by show rq _ (if _ then _ else _) = _; rw [if_pos (show p < xLn 0 by show _ < 3; omega)]; rfl) dX7_addStep_58 ?_
      refine lv_iload_n hx hb dX7_addStep_59 rfl (lv_at hl 4 rfl) ?_
      refine x_cald hx hb hK hH (id := [22, 0, p]) (by first | trivial | (simp only [xD]; omega) | (simp [xD]; done) | (simp [xD]; omega)) (L := 8) rfl rfl j rfl (by omega) (by decide) dX7_addStep_60 ?_
      refine lv_bipush (v := 115) hx hb dX7_addStep_61 (by decide) ?_
      refine lv_icmp_ne (tgt := 70) hx hb dX7_addStep_63 (by decide) (fun q_ => absurd q_ (fun z_ => z_ hy2)) (fun _ => ?_)
      refine lv_iconst (v := 1) hx hb dX7_addStep_66 (by decide) ?_
      refine lv_goto (tgt := 71) hx hb dX7_addStep_67 (by decide) ?_
      refine lv_istore (lv' := [(5, .int 1), (4, .int 1), (0, .ref (ga g [20])), (1, .int (nI p)), (2, .int kd), (3, .int (nI j))]) hx hb dX7_addStep_71 hl (by decide) rfl (fun ls hl => ?_)
      refine lv_aload_n hx hb dX7_addStep_73 rfl (lv_at hl 2 rfl) ?_
      refine lv_iload hx hb dX7_addStep_74 (lv_at hl 1 rfl) ?_
      refine lv_if_eq (tgt := 84) hx hb dX7_addStep_76 (by decide) (fun q_ => absurd q_ (by decide)) (fun _ => ?_)
      refine lv_iload hx hb dX7_addStep_79 (lv_at hl 0 rfl) ?_
      refine lv_if_ne (tgt := 88) hx hb dX7_addStep_81 (by decide) (fun _ => ?_) (fun q_ => absurd q_ (by decide))
      refine lv_aload_n hx hb dX7_addStep_88 rfl (lv_at hl 2 rfl) ?_
      refine x_get (C := RX7) (T := TX7) (N := 24) (ci := 7) hx hb hts iu7 hown hK hH (id := [20]) (by first | trivial | (simp only [xD]; omega) | (simp [xD]; done) | (simp [xD]; omega)) rfl rfl (by decide) 9 (by decide) (hts _ tw848) (fun _ h9 => h9) rfl (v := .ref (ga g [24, 9])) rfl dX7_addStep_89 ?_
      refine lv_iload_n hx hb dX7_addStep_92 rfl (lv_at hl 3 rfl) ?_
      refine x_bald hx hb hK hH (id := [24, 9]) (by first | trivial | (simp only [xD]; omega) | (simp [xD]; done) | (simp [xD]; omega)) (L := 3) rfl rfl p rfl (by omega) (by decide) dX7_addStep_93 ?_
      refine lv_if_ne (tgt := 108) hx hb dX7_addStep_94 (by decide) (fun q_ => absurd q_ (fun z_ => z_ hu)) (fun _ => ?_)
      refine lv_aload_n hx hb dX7_addStep_97 rfl (lv_at hl 2 rfl) ?_
      refine x_get (C := RX7) (T := TX7) (N := 24) (ci := 7) hx hb hts iu7 hown hK hH (id := [20]) (by first | trivial | (simp only [xD]; omega) | (simp [xD]; done) | (simp [xD]; omega)) rfl rfl (by decide) 8 (by decide) (hts _ tw847) (fun _ h9 => h9) rfl (v := .ref (ga g [24, 8])) rfl dX7_addStep_98 ?_
      refine lv_iload_n hx hb dX7_addStep_101 rfl (lv_at hl 3 rfl) ?_
      refine x_iald hx hb hK hH (id := [24, 8]) (by first | trivial | (simp only [xD]; omega) | (simp [xD]; done) | (simp [xD]; omega)) (L := 3) rfl rfl p rfl (by omega) (by decide) dX7_addStep_102 ?_
      rw [show (I [24, 8] p) = (nI k) from (hs)]
      refine lv_bipush (v := 8) hx hb dX7_addStep_103 (by decide) ?_
      refine lv_icmp_ne (tgt := 112) hx hb dX7_addStep_105 (by decide) (fun q_ => absurd q_ (fun z_ => z_ ((nI_eq (a := k) (b := 8) (by omega) (by omega)).mpr (by omega)))) (fun _ => ?_)
      refine lv_iconst (v := 3) hx hb dX7_addStep_108 (by decide) ?_
      refine lv_goto (tgt := 113) hx hb dX7_addStep_109 (by decide) ?_
      obtain ⟨I2_, hI2_⟩ : ∃ z, z = up I [20] 23 3 := ⟨_, rfl⟩
      refine x_put (C := RX7) (T := TX7) (N := 24) (ci := 7) hx hb hts iu7 tyX7 tyX7_ok nmX7 hown hK hH hS (id := [20]) (by first | trivial | (simp only [xD]; omega) | (simp [xD]; done) | (simp [xD]; omega)) rfl rfl (by decide) 23 (by decide) (hts _ tw862) (fun _ h9 => h9) (Or.inl rfl) (ty := .int) (v := .int 3) (by decide +kernel) rfl rfl (I' := I2_) (F' := (xFh h)) (fun i hi => by rw [hI2_]; exact up_id hi) (fun _ _ => rfl) (fun j9 => by rw [hI2_, up_row]; exact xv_upd (ci := 7) (k := 23) rfl j9) dX7_addStep_113 (fun H locs hH hS => ?_)
      refine lv_aload_n hx hb dX7_addStep_116 rfl (lv_at hl 2 rfl) ?_
      refine x_get (C := RX7) (T := TX7) (N := 24) (ci := 7) hx hb hts iu7 hown hK hH (id := [20]) (by first | trivial | (simp only [xD]; omega) | (simp [xD]; done) | (simp [xD]; omega)) rfl rfl (by decide) 23 (by decide) (hts _ tw862) (fun _ h9 => h9) rfl (v := .int 3) (congrArg Value.int (by rw [hI2_]; exact up_at)) dX7_addStep_117 ?_
      refine lv_if_le (tgt := 125) hx hb dX7_addStep_120 (by decide) (fun q_ => absurd q_ (by decide)) (fun _ => ?_)
      refine lv_iconst (v := 0) hx hb dX7_addStep_123 (by decide) ?_
      exact x_iret hx hb hr hlocks hS dX7_addStep_124 rfl (by rw [hI2_] at hH; exact hH)
  · skip
    refine lv_iload_n hx hb dX7_addStep_20 rfl (lv_at hl 2 rfl) ?_
    refine lv_bipush (v := 116) hx hb dX7_addStep_21 (by decide) ?_
    refine lv_icmp_eq (tgt := 32) hx hb dX7_addStep_23 (by decide) (fun c_23 => ?_) (fun c_23 => ?_)
    · skip
      refine lv_iconst (v := 1) hx hb dX7_addStep_32 (by decide) ?_
      refine lv_goto (tgt := 37) hx hb dX7_addStep_33 (by decide) ?_
      refine lv_istore (lv' := [(4, .int 1), (0, .ref (ga g [20])), (1, .int (nI p)), (2, .int kd), (3, .int y)]) hx hb dX7_addStep_37 hl (by decide) rfl (fun ls hl => ?_)
      rcases hpa with hy | ⟨j, hj, hy, hy2⟩
      · skip
        refine lv_iload_n hx hb dX7_addStep_39 rfl (lv_at hl 4 rfl) ?_
        refine lv_iconst (v := (-1)) hx hb dX7_addStep_40 (by decide) ?_
        refine lv_icmp_eq (tgt := 66) hx hb dX7_addStep_41 (by decide) (fun _ => ?_) (fun q_ => absurd hy q_)
        refine lv_iconst (v := 1) hx hb dX7_addStep_66 (by decide) ?_
        refine lv_goto (tgt := 71) hx hb dX7_addStep_67 (by decide) ?_
        refine lv_istore (lv' := [(5, .int 1), (4, .int 1), (0, .ref (ga g [20])), (1, .int (nI p)), (2, .int kd), (3, .int y)]) hx hb dX7_addStep_71 hl (by decide) rfl (fun ls hl => ?_)
        refine lv_aload_n hx hb dX7_addStep_73 rfl (lv_at hl 2 rfl) ?_
        refine lv_iload hx hb dX7_addStep_74 (lv_at hl 1 rfl) ?_
        refine lv_if_eq (tgt := 84) hx hb dX7_addStep_76 (by decide) (fun q_ => absurd q_ (by decide)) (fun _ => ?_)
        refine lv_iload hx hb dX7_addStep_79 (lv_at hl 0 rfl) ?_
        refine lv_if_ne (tgt := 88) hx hb dX7_addStep_81 (by decide) (fun _ => ?_) (fun q_ => absurd q_ (by decide))
        refine lv_aload_n hx hb dX7_addStep_88 rfl (lv_at hl 2 rfl) ?_
        refine x_get (C := RX7) (T := TX7) (N := 24) (ci := 7) hx hb hts iu7 hown hK hH (id := [20]) (by first | trivial | (simp only [xD]; omega) | (simp [xD]; done) | (simp [xD]; omega)) rfl rfl (by decide) 9 (by decide) (hts _ tw848) (fun _ h9 => h9) rfl (v := .ref (ga g [24, 9])) rfl dX7_addStep_89 ?_
        refine lv_iload_n hx hb dX7_addStep_92 rfl (lv_at hl 3 rfl) ?_
        refine x_bald hx hb hK hH (id := [24, 9]) (by first | trivial | (simp only [xD]; omega) | (simp [xD]; done) | (simp [xD]; omega)) (L := 3) rfl rfl p rfl (by omega) (by decide) dX7_addStep_93 ?_
        refine lv_if_ne (tgt := 108) hx hb dX7_addStep_94 (by decide) (fun q_ => absurd q_ (fun z_ => z_ hu)) (fun _ => ?_)
        refine lv_aload_n hx hb dX7_addStep_97 rfl (lv_at hl 2 rfl) ?_
        refine x_get (C := RX7) (T := TX7) (N := 24) (ci := 7) hx hb hts iu7 hown hK hH (id := [20]) (by first | trivial | (simp only [xD]; omega) | (simp [xD]; done) | (simp [xD]; omega)) rfl rfl (by decide) 8 (by decide) (hts _ tw847) (fun _ h9 => h9) rfl (v := .ref (ga g [24, 8])) rfl dX7_addStep_98 ?_
        refine lv_iload_n hx hb dX7_addStep_101 rfl (lv_at hl 3 rfl) ?_
        refine x_iald hx hb hK hH (id := [24, 8]) (by first | trivial | (simp only [xD]; omega) | (simp [xD]; done) | (simp [xD]; omega)) (L := 3) rfl rfl p rfl (by omega) (by decide) dX7_addStep_102 ?_
        rw [show (I [24, 8] p) = (nI k) from (hs)]
        refine lv_bipush (v := 8) hx hb dX7_addStep_103 (by decide) ?_
        refine lv_icmp_ne (tgt := 112) hx hb dX7_addStep_105 (by decide) (fun q_ => absurd q_ (fun z_ => z_ ((nI_eq (a := k) (b := 8) (by omega) (by omega)).mpr (by omega)))) (fun _ => ?_)
        refine lv_iconst (v := 3) hx hb dX7_addStep_108 (by decide) ?_
        refine lv_goto (tgt := 113) hx hb dX7_addStep_109 (by decide) ?_
        obtain ⟨I3_, hI3_⟩ : ∃ z, z = up I [20] 23 3 := ⟨_, rfl⟩
        refine x_put (C := RX7) (T := TX7) (N := 24) (ci := 7) hx hb hts iu7 tyX7 tyX7_ok nmX7 hown hK hH hS (id := [20]) (by first | trivial | (simp only [xD]; omega) | (simp [xD]; done) | (simp [xD]; omega)) rfl rfl (by decide) 23 (by decide) (hts _ tw862) (fun _ h9 => h9) (Or.inl rfl) (ty := .int) (v := .int 3) (by decide +kernel) rfl rfl (I' := I3_) (F' := (xFh h)) (fun i hi => by rw [hI3_]; exact up_id hi) (fun _ _ => rfl) (fun j9 => by rw [hI3_, up_row]; exact xv_upd (ci := 7) (k := 23) rfl j9) dX7_addStep_113 (fun H locs hH hS => ?_)
        refine lv_aload_n hx hb dX7_addStep_116 rfl (lv_at hl 2 rfl) ?_
        refine x_get (C := RX7) (T := TX7) (N := 24) (ci := 7) hx hb hts iu7 hown hK hH (id := [20]) (by first | trivial | (simp only [xD]; omega) | (simp [xD]; done) | (simp [xD]; omega)) rfl rfl (by decide) 23 (by decide) (hts _ tw862) (fun _ h9 => h9) rfl (v := .int 3) (congrArg Value.int (by rw [hI3_]; exact up_at)) dX7_addStep_117 ?_
        refine lv_if_le (tgt := 125) hx hb dX7_addStep_120 (by decide) (fun q_ => absurd q_ (by decide)) (fun _ => ?_)
        refine lv_iconst (v := 0) hx hb dX7_addStep_123 (by decide) ?_
        exact x_iret hx hb hr hlocks hS dX7_addStep_124 rfl (by rw [hI3_] at hH; exact hH)
      · skip
        subst hy
        refine lv_iload_n hx hb dX7_addStep_39 rfl (lv_at hl 4 rfl) ?_
        refine lv_iconst (v := (-1)) hx hb dX7_addStep_40 (by decide) ?_
        refine lv_icmp_eq (tgt := 66) hx hb dX7_addStep_41 (by decide) (fun q_ => absurd q_ (nI_m1 (by omega))) (fun _ => ?_)
        refine lv_aload_n hx hb dX7_addStep_44 rfl (lv_at hl 1 rfl) ?_
        refine lv_iload_n hx hb dX7_addStep_45 rfl (lv_at hl 2 rfl) ?_
        refine lv_iload_n hx hb dX7_addStep_46 rfl (lv_at hl 4 rfl) ?_
        refine x_V1 hx hb hml hown hE hS hl.1 cyX7_isStep tw936 (c_X7_isStep_1 l g h I n q hq hz p hp k hk hs ((nI j))) ⟨Nat.le_of_ble_eq_true rfl, Nat.le_of_ble_eq_true rfl⟩ ⟨Nat.le_of_ble_eq_true rfl, Nat.le_of_ble_eq_true rfl⟩ (x_recv hK hH (id := [20]) (by first | trivial | (simp only [xD]; omega) | (simp [xD]; done) | (simp [xD]; omega)) (ci := 7) rfl (by decide) rfl) hH rfl rfl (Nat.le_of_ble_eq_true rfl) dX7_addStep_47 (fun H locs hH hS => ?_)
        refine lv_if_eq (tgt := 70) hx hb dX7_addStep_50 (by decide) (fun q_ => absurd q_ (fun z_ => by rw [sIn_nI hj (by omega)] at z_; exact absurd z_ (by decide))) (fun _ => ?_)
        refine lv_aload_n hx hb dX7_addStep_53 rfl (lv_at hl 1 rfl) ?_
        refine x_get (C := RX7) (T := TX7) (N := 24) (ci := 7) hx hb hts iu7 hown hK hH (id := [20]) (by first | trivial | (simp only [xD]; omega) | (simp [xD]; done) | (simp [xD]; omega)) rfl rfl (by decide) 0 (by decide) (hts _ tw839) (fun _ h9 => h9) rfl (v := .ref (ga g [21, 0])) rfl dX7_addStep_54 ?_
        refine lv_iload_n hx hb dX7_addStep_57 rfl (lv_at hl 2 rfl) ?_
        refine x_aald hx hb hK hH (id := [21, 0]) (by first | trivial | (simp only [xD]; omega) | (simp [xD]; done) | (simp [xD]; omega)) 8 (L := 3) rfl (by decide) p rfl (by omega) (by decide) (v := .ref (ga g [22, 0, p])) (by show rq _ (if _ then _ else _) = _; rw [if_pos (show p < xLn 0 by show _ < 3; omega)]; rfl) dX7_addStep_58 ?_
        refine lv_iload_n hx hb dX7_addStep_59 rfl (lv_at hl 4 rfl) ?_
        refine x_cald hx hb hK hH (id := [22, 0, p]) (by first | trivial | (simp only [xD]; omega) | (simp [xD]; done) | (simp [xD]; omega)) (L := 8) rfl rfl j rfl (by omega) (by decide) dX7_addStep_60 ?_
        refine lv_bipush (v := 115) hx hb dX7_addStep_61 (by decide) ?_
        refine lv_icmp_ne (tgt := 70) hx hb dX7_addStep_63 (by decide) (fun q_ => absurd q_ (fun z_ => z_ hy2)) (fun _ => ?_)
        refine lv_iconst (v := 1) hx hb dX7_addStep_66 (by decide) ?_
        refine lv_goto (tgt := 71) hx hb dX7_addStep_67 (by decide) ?_
        refine lv_istore (lv' := [(5, .int 1), (4, .int 1), (0, .ref (ga g [20])), (1, .int (nI p)), (2, .int kd), (3, .int (nI j))]) hx hb dX7_addStep_71 hl (by decide) rfl (fun ls hl => ?_)
        refine lv_aload_n hx hb dX7_addStep_73 rfl (lv_at hl 2 rfl) ?_
        refine lv_iload hx hb dX7_addStep_74 (lv_at hl 1 rfl) ?_
        refine lv_if_eq (tgt := 84) hx hb dX7_addStep_76 (by decide) (fun q_ => absurd q_ (by decide)) (fun _ => ?_)
        refine lv_iload hx hb dX7_addStep_79 (lv_at hl 0 rfl) ?_
        refine lv_if_ne (tgt := 88) hx hb dX7_addStep_81 (by decide) (fun _ => ?_) (fun q_ => absurd q_ (by decide))
        refine lv_aload_n hx hb dX7_addStep_88 rfl (lv_at hl 2 rfl) ?_
        refine x_get (C := RX7) (T := TX7) (N := 24) (ci := 7) hx hb hts iu7 hown hK hH (id := [20]) (by first | trivial | (simp only [xD]; omega) | (simp [xD]; done) | (simp [xD]; omega)) rfl rfl (by decide) 9 (by decide) (hts _ tw848) (fun _ h9 => h9) rfl (v := .ref (ga g [24, 9])) rfl dX7_addStep_89 ?_
        refine lv_iload_n hx hb dX7_addStep_92 rfl (lv_at hl 3 rfl) ?_
        refine x_bald hx hb hK hH (id := [24, 9]) (by first | trivial | (simp only [xD]; omega) | (simp [xD]; done) | (simp [xD]; omega)) (L := 3) rfl rfl p rfl (by omega) (by decide) dX7_addStep_93 ?_
        refine lv_if_ne (tgt := 108) hx hb dX7_addStep_94 (by decide) (fun q_ => absurd q_ (fun z_ => z_ hu)) (fun _ => ?_)
        refine lv_aload_n hx hb dX7_addStep_97 rfl (lv_at hl 2 rfl) ?_
        refine x_get (C := RX7) (T := TX7) (N := 24) (ci := 7) hx hb hts iu7 hown hK hH (id := [20]) (by first | trivial | (simp only [xD]; omega) | (simp [xD]; done) | (simp [xD]; omega)) rfl rfl (by decide) 8 (by decide) (hts _ tw847) (fun _ h9 => h9) rfl (v := .ref (ga g [24, 8])) rfl dX7_addStep_98 ?_
        refine lv_iload_n hx hb dX7_addStep_101 rfl (lv_at hl 3 rfl) ?_
        refine x_iald hx hb hK hH (id := [24, 8]) (by first | trivial | (simp only [xD]; omega) | (simp [xD]; done) | (simp [xD]; omega)) (L := 3) rfl rfl p rfl (by omega) (by decide) dX7_addStep_102 ?_
        rw [show (I [24, 8] p) = (nI k) from (hs)]
        refine lv_bipush (v := 8) hx hb dX7_addStep_103 (by decide) ?_
        refine lv_icmp_ne (tgt := 112) hx hb dX7_addStep_105 (by decide) (fun q_ => absurd q_ (fun z_ => z_ ((nI_eq (a := k) (b := 8) (by omega) (by omega)).mpr (by omega)))) (fun _ => ?_)
        refine lv_iconst (v := 3) hx hb dX7_addStep_108 (by decide) ?_
        refine lv_goto (tgt := 113) hx hb dX7_addStep_109 (by decide) ?_
        obtain ⟨I4_, hI4_⟩ : ∃ z, z = up I [20] 23 3 := ⟨_, rfl⟩
        refine x_put (C := RX7) (T := TX7) (N := 24) (ci := 7) hx hb hts iu7 tyX7 tyX7_ok nmX7 hown hK hH hS (id := [20]) (by first | trivial | (simp only [xD]; omega) | (simp [xD]; done) | (simp [xD]; omega)) rfl rfl (by decide) 23 (by decide) (hts _ tw862) (fun _ h9 => h9) (Or.inl rfl) (ty := .int) (v := .int 3) (by decide +kernel) rfl rfl (I' := I4_) (F' := (xFh h)) (fun i hi => by rw [hI4_]; exact up_id hi) (fun _ _ => rfl) (fun j9 => by rw [hI4_, up_row]; exact xv_upd (ci := 7) (k := 23) rfl j9) dX7_addStep_113 (fun H locs hH hS => ?_)
        refine lv_aload_n hx hb dX7_addStep_116 rfl (lv_at hl 2 rfl) ?_
        refine x_get (C := RX7) (T := TX7) (N := 24) (ci := 7) hx hb hts iu7 hown hK hH (id := [20]) (by first | trivial | (simp only [xD]; omega) | (simp [xD]; done) | (simp [xD]; omega)) rfl rfl (by decide) 23 (by decide) (hts _ tw862) (fun _ h9 => h9) rfl (v := .int 3) (congrArg Value.int (by rw [hI4_]; exact up_at)) dX7_addStep_117 ?_
        refine lv_if_le (tgt := 125) hx hb dX7_addStep_120 (by decide) (fun q_ => absurd q_ (by decide)) (fun _ => ?_)
        refine lv_iconst (v := 0) hx hb dX7_addStep_123 (by decide) ?_
        exact x_iret hx hb hr hlocks hS dX7_addStep_124 rfl (by rw [hI4_] at hH; exact hH)
    · skip
      refine lv_iload_n hx hb dX7_addStep_26 rfl (lv_at hl 2 rfl) ?_
      refine lv_bipush (v := 109) hx hb dX7_addStep_27 (by decide) ?_
      refine lv_icmp_ne (tgt := 36) hx hb dX7_addStep_29 (by decide) (fun q_ => absurd q_ (fun z_ => z_ ((hkd.resolve_left c_17).resolve_left c_23))) (fun _ => ?_)
      refine lv_iconst (v := 1) hx hb dX7_addStep_32 (by decide) ?_
      refine lv_goto (tgt := 37) hx hb dX7_addStep_33 (by decide) ?_
      refine lv_istore (lv' := [(4, .int 1), (0, .ref (ga g [20])), (1, .int (nI p)), (2, .int kd), (3, .int y)]) hx hb dX7_addStep_37 hl (by decide) rfl (fun ls hl => ?_)
      rcases hpa with hy | ⟨j, hj, hy, hy2⟩
      · skip
        refine lv_iload_n hx hb dX7_addStep_39 rfl (lv_at hl 4 rfl) ?_
        refine lv_iconst (v := (-1)) hx hb dX7_addStep_40 (by decide) ?_
        refine lv_icmp_eq (tgt := 66) hx hb dX7_addStep_41 (by decide) (fun _ => ?_) (fun q_ => absurd hy q_)
        refine lv_iconst (v := 1) hx hb dX7_addStep_66 (by decide) ?_
        refine lv_goto (tgt := 71) hx hb dX7_addStep_67 (by decide) ?_
        refine lv_istore (lv' := [(5, .int 1), (4, .int 1), (0, .ref (ga g [20])), (1, .int (nI p)), (2, .int kd), (3, .int y)]) hx hb dX7_addStep_71 hl (by decide) rfl (fun ls hl => ?_)
        refine lv_aload_n hx hb dX7_addStep_73 rfl (lv_at hl 2 rfl) ?_
        refine lv_iload hx hb dX7_addStep_74 (lv_at hl 1 rfl) ?_
        refine lv_if_eq (tgt := 84) hx hb dX7_addStep_76 (by decide) (fun q_ => absurd q_ (by decide)) (fun _ => ?_)
        refine lv_iload hx hb dX7_addStep_79 (lv_at hl 0 rfl) ?_
        refine lv_if_ne (tgt := 88) hx hb dX7_addStep_81 (by decide) (fun _ => ?_) (fun q_ => absurd q_ (by decide))
        refine lv_aload_n hx hb dX7_addStep_88 rfl (lv_at hl 2 rfl) ?_
        refine x_get (C := RX7) (T := TX7) (N := 24) (ci := 7) hx hb hts iu7 hown hK hH (id := [20]) (by first | trivial | (simp only [xD]; omega) | (simp [xD]; done) | (simp [xD]; omega)) rfl rfl (by decide) 9 (by decide) (hts _ tw848) (fun _ h9 => h9) rfl (v := .ref (ga g [24, 9])) rfl dX7_addStep_89 ?_
        refine lv_iload_n hx hb dX7_addStep_92 rfl (lv_at hl 3 rfl) ?_
        refine x_bald hx hb hK hH (id := [24, 9]) (by first | trivial | (simp only [xD]; omega) | (simp [xD]; done) | (simp [xD]; omega)) (L := 3) rfl rfl p rfl (by omega) (by decide) dX7_addStep_93 ?_
        refine lv_if_ne (tgt := 108) hx hb dX7_addStep_94 (by decide) (fun q_ => absurd q_ (fun z_ => z_ hu)) (fun _ => ?_)
        refine lv_aload_n hx hb dX7_addStep_97 rfl (lv_at hl 2 rfl) ?_
        refine x_get (C := RX7) (T := TX7) (N := 24) (ci := 7) hx hb hts iu7 hown hK hH (id := [20]) (by first | trivial | (simp only [xD]; omega) | (simp [xD]; done) | (simp [xD]; omega)) rfl rfl (by decide) 8 (by decide) (hts _ tw847) (fun _ h9 => h9) rfl (v := .ref (ga g [24, 8])) rfl dX7_addStep_98 ?_
        refine lv_iload_n hx hb dX7_addStep_101 rfl (lv_at hl 3 rfl) ?_
        refine x_iald hx hb hK hH (id := [24, 8]) (by first | trivial | (simp only [xD]; omega) | (simp [xD]; done) | (simp [xD]; omega)) (L := 3) rfl rfl p rfl (by omega) (by decide) dX7_addStep_102 ?_
        rw [show (I [24, 8] p) = (nI k) from (hs)]
        refine lv_bipush (v := 8) hx hb dX7_addStep_103 (by decide) ?_
        refine lv_icmp_ne (tgt := 112) hx hb dX7_addStep_105 (by decide) (fun q_ => absurd q_ (fun z_ => z_ ((nI_eq (a := k) (b := 8) (by omega) (by omega)).mpr (by omega)))) (fun _ => ?_)
        refine lv_iconst (v := 3) hx hb dX7_addStep_108 (by decide) ?_
        refine lv_goto (tgt := 113) hx hb dX7_addStep_109 (by decide) ?_
        obtain ⟨I5_, hI5_⟩ : ∃ z, z = up I [20] 23 3 := ⟨_, rfl⟩
        refine x_put (C := RX7) (T := TX7) (N := 24) (ci := 7) hx hb hts iu7 tyX7 tyX7_ok nmX7 hown hK hH hS (id := [20]) (by first | trivial | (simp only [xD]; omega) | (simp [xD]; done) | (simp [xD]; omega)) rfl rfl (by decide) 23 (by decide) (hts _ tw862) (fun _ h9 => h9) (Or.inl rfl) (ty := .int) (v := .int 3) (by decide +kernel) rfl rfl (I' := I5_) (F' := (xFh h)) (fun i hi => by rw [hI5_]; exact up_id hi) (fun _ _ => rfl) (fun j9 => by rw [hI5_, up_row]; exact xv_upd (ci := 7) (k := 23) rfl j9) dX7_addStep_113 (fun H locs hH hS => ?_)
        refine lv_aload_n hx hb dX7_addStep_116 rfl (lv_at hl 2 rfl) ?_
        refine x_get (C := RX7) (T := TX7) (N := 24) (ci := 7) hx hb hts iu7 hown hK hH (id := [20]) (by first | trivial | (simp only [xD]; omega) | (simp [xD]; done) | (simp [xD]; omega)) rfl rfl (by decide) 23 (by decide) (hts _ tw862) (fun _ h9 => h9) rfl (v := .int 3) (congrArg Value.int (by rw [hI5_]; exact up_at)) dX7_addStep_117 ?_
        refine lv_if_le (tgt := 125) hx hb dX7_addStep_120 (by decide) (fun q_ => absurd q_ (by decide)) (fun _ => ?_)
        refine lv_iconst (v := 0) hx hb dX7_addStep_123 (by decide) ?_
        exact x_iret hx hb hr hlocks hS dX7_addStep_124 rfl (by rw [hI5_] at hH; exact hH)
      · skip
        subst hy
        refine lv_iload_n hx hb dX7_addStep_39 rfl (lv_at hl 4 rfl) ?_
        refine lv_iconst (v := (-1)) hx hb dX7_addStep_40 (by decide) ?_
        refine lv_icmp_eq (tgt := 66) hx hb dX7_addStep_41 (by decide) (fun q_ => absurd q_ (nI_m1 (by omega))) (fun _ => ?_)
        refine lv_aload_n hx hb dX7_addStep_44 rfl (lv_at hl 1 rfl) ?_
        refine lv_iload_n hx hb dX7_addStep_45 rfl (lv_at hl 2 rfl) ?_
        refine lv_iload_n hx hb dX7_addStep_46 rfl (lv_at hl 4 rfl) ?_
        refine x_V1 hx hb hml hown hE hS hl.1 cyX7_isStep tw936 (c_X7_isStep_1 l g h I n q hq hz p hp k hk hs ((nI j))) ⟨Nat.le_of_ble_eq_true rfl, Nat.le_of_ble_eq_true rfl⟩ ⟨Nat.le_of_ble_eq_true rfl, Nat.le_of_ble_eq_true rfl⟩ (x_recv hK hH (id := [20]) (by first | trivial | (simp only [xD]; omega) | (simp [xD]; done) | (simp [xD]; omega)) (ci := 7) rfl (by decide) rfl) hH rfl rfl (Nat.le_of_ble_eq_true rfl) dX7_addStep_47 (fun H locs hH hS => ?_)
        refine lv_if_eq (tgt := 70) hx hb dX7_addStep_50 (by decide) (fun q_ => absurd q_ (fun z_ => by rw [sIn_nI hj (by omega)] at z_; exact absurd z_ (by decide))) (fun _ => ?_)
        refine lv_aload_n hx hb dX7_addStep_53 rfl (lv_at hl 1 rfl) ?_
        refine x_get (C := RX7) (T := TX7) (N := 24) (ci := 7) hx hb hts iu7 hown hK hH (id := [20]) (by first | trivial | (simp only [xD]; omega) | (simp [xD]; done) | (simp [xD]; omega)) rfl rfl (by decide) 0 (by decide) (hts _ tw839) (fun _ h9 => h9) rfl (v := .ref (ga g [21, 0])) rfl dX7_addStep_54 ?_
        refine lv_iload_n hx hb dX7_addStep_57 rfl (lv_at hl 2 rfl) ?_
        refine x_aald hx hb hK hH (id := [21, 0]) (by first | trivial | (simp only [xD]; omega) | (simp [xD]; done) | (simp [xD]; omega)) 8 (L := 3) rfl (by decide) p rfl (by omega) (by decide) (v := .ref (ga g [22, 0, p])) (by show rq _ (if _ then _ else _) = _; rw [if_pos (show p < xLn 0 by show _ < 3; omega)]; rfl) dX7_addStep_58 ?_
        refine lv_iload_n hx hb dX7_addStep_59 rfl (lv_at hl 4 rfl) ?_
        refine x_cald hx hb hK hH (id := [22, 0, p]) (by first | trivial | (simp only [xD]; omega) | (simp [xD]; done) | (simp [xD]; omega)) (L := 8) rfl rfl j rfl (by omega) (by decide) dX7_addStep_60 ?_
        refine lv_bipush (v := 115) hx hb dX7_addStep_61 (by decide) ?_
        refine lv_icmp_ne (tgt := 70) hx hb dX7_addStep_63 (by decide) (fun q_ => absurd q_ (fun z_ => z_ hy2)) (fun _ => ?_)
        refine lv_iconst (v := 1) hx hb dX7_addStep_66 (by decide) ?_
        refine lv_goto (tgt := 71) hx hb dX7_addStep_67 (by decide) ?_
        refine lv_istore (lv' := [(5, .int 1), (4, .int 1), (0, .ref (ga g [20])), (1, .int (nI p)), (2, .int kd), (3, .int (nI j))]) hx hb dX7_addStep_71 hl (by decide) rfl (fun ls hl => ?_)
        refine lv_aload_n hx hb dX7_addStep_73 rfl (lv_at hl 2 rfl) ?_
        refine lv_iload hx hb dX7_addStep_74 (lv_at hl 1 rfl) ?_
        refine lv_if_eq (tgt := 84) hx hb dX7_addStep_76 (by decide) (fun q_ => absurd q_ (by decide)) (fun _ => ?_)
        refine lv_iload hx hb dX7_addStep_79 (lv_at hl 0 rfl) ?_
        refine lv_if_ne (tgt := 88) hx hb dX7_addStep_81 (by decide) (fun _ => ?_) (fun q_ => absurd q_ (by decide))
        refine lv_aload_n hx hb dX7_addStep_88 rfl (lv_at hl 2 rfl) ?_
        refine x_get (C := RX7) (T := TX7) (N := 24) (ci := 7) hx hb hts iu7 hown hK hH (id := [20]) (by first | trivial | (simp only [xD]; omega) | (simp [xD]; done) | (simp [xD]; omega)) rfl rfl (by decide) 9 (by decide) (hts _ tw848) (fun _ h9 => h9) rfl (v := .ref (ga g [24, 9])) rfl dX7_addStep_89 ?_
        refine lv_iload_n hx hb dX7_addStep_92 rfl (lv_at hl 3 rfl) ?_
        refine x_bald hx hb hK hH (id := [24, 9]) (by first | trivial | (simp only [xD]; omega) | (simp [xD]; done) | (simp [xD]; omega)) (L := 3) rfl rfl p rfl (by omega) (by decide) dX7_addStep_93 ?_
        refine lv_if_ne (tgt := 108) hx hb dX7_addStep_94 (by decide) (fun q_ => absurd q_ (fun z_ => z_ hu)) (fun _ => ?_)
        refine lv_aload_n hx hb dX7_addStep_97 rfl (lv_at hl 2 rfl) ?_
        refine x_get (C := RX7) (T := TX7) (N := 24) (ci := 7) hx hb hts iu7 hown hK hH (id := [20]) (by first | trivial | (simp only [xD]; omega) | (simp [xD]; done) | (simp [xD]; omega)) rfl rfl (by decide) 8 (by decide) (hts _ tw847) (fun _ h9 => h9) rfl (v := .ref (ga g [24, 8])) rfl dX7_addStep_98 ?_
        refine lv_iload_n hx hb dX7_addStep_101 rfl (lv_at hl 3 rfl) ?_
        refine x_iald hx hb hK hH (id := [24, 8]) (by first | trivial | (simp only [xD]; omega) | (simp [xD]; done) | (simp [xD]; omega)) (L := 3) rfl rfl p rfl (by omega) (by decide) dX7_addStep_102 ?_
        rw [show (I [24, 8] p) = (nI k) from (hs)]
        refine lv_bipush (v := 8) hx hb dX7_addStep_103 (by decide) ?_
        refine lv_icmp_ne (tgt := 112) hx hb dX7_addStep_105 (by decide) (fun q_ => absurd q_ (fun z_ => z_ ((nI_eq (a := k) (b := 8) (by omega) (by omega)).mpr (by omega)))) (fun _ => ?_)
        refine lv_iconst (v := 3) hx hb dX7_addStep_108 (by decide) ?_
        refine lv_goto (tgt := 113) hx hb dX7_addStep_109 (by decide) ?_
        obtain ⟨I6_, hI6_⟩ : ∃ z, z = up I [20] 23 3 := ⟨_, rfl⟩
        refine x_put (C := RX7) (T := TX7) (N := 24) (ci := 7) hx hb hts iu7 tyX7 tyX7_ok nmX7 hown hK hH hS (id := [20]) (by first | trivial | (simp only [xD]; omega) | (simp [xD]; done) | (simp [xD]; omega)) rfl rfl (by decide) 23 (by decide) (hts _ tw862) (fun _ h9 => h9) (Or.inl rfl) (ty := .int) (v := .int 3) (by decide +kernel) rfl rfl (I' := I6_) (F' := (xFh h)) (fun i hi => by rw [hI6_]; exact up_id hi) (fun _ _ => rfl) (fun j9 => by rw [hI6_, up_row]; exact xv_upd (ci := 7) (k := 23) rfl j9) dX7_addStep_113 (fun H locs hH hS => ?_)
        refine lv_aload_n hx hb dX7_addStep_116 rfl (lv_at hl 2 rfl) ?_
        refine x_get (C := RX7) (T := TX7) (N := 24) (ci := 7) hx hb hts iu7 hown hK hH (id := [20]) (by first | trivial | (simp only [xD]; omega) | (simp [xD]; done) | (simp [xD]; omega)) rfl rfl (by decide) 23 (by decide) (hts _ tw862) (fun _ h9 => h9) rfl (v := .int 3) (congrArg Value.int (by rw [hI6_]; exact up_at)) dX7_addStep_117 ?_
        refine lv_if_le (tgt := 125) hx hb dX7_addStep_120 (by decide) (fun q_ => absurd q_ (by decide)) (fun _ => ?_)
        refine lv_iconst (v := 0) hx hb dX7_addStep_123 (by decide) ?_
        exact x_iret hx hb hr hlocks hS dX7_addStep_124 rfl (by rw [hI6_] at hH; exact hH)

def mStp (I : xI) (p k : Nat) (kd y : Int32) : xI := up (up (up (up (up (up I [20] 23 0) [22, 0, p] k kd) [22, 1, p] k y) [22, 2, p] k (b01 (decide (kd = 116)))) [22, 3, p] k 10) [24, 8] p (nI (k + 1))
/-- a condition more: the m th, for w = 0 an entry's, for w = 1 an exit's -/
def mAdd (I : xI) (p j w m : Nat) (so a b : Int32) : xI := up (up (up (up I [23, 4, p, j] (3 * w + m) so) [23, 5, p, j] (3 * w + m) a) [23, 6, p, j] (3 * w + m) b) [23, 7, p, j] w (nI (m + 1))
set_option maxHeartbeats 1000000 in
set_option maxRecDepth 100000 in
theorem c_X7_addStep (l : Launch) (g : xG) (h : xS) (I : xI) (n : Nat) (q : Nat) (hq : q ≤ 3) (hz : I [20] 10 = nI q) (p : Nat) (hp : p < q) (k : Nat) (hk : k ≤ 8) (hs : I [24, 8] p = nI k) (kd y : Int32) (hkd : kd = 115 ∨ kd = 116 ∨ kd = 109) (hpa : y = -1 ∨ (∃ j : Nat, j < k ∧ y = nI j ∧ I [22, 0, p] j = 115)) (hu : I [24, 9] p = 0) (h8 : k < 8) (hsc : narrow .char (.int kd) = .int kd) : xM l yX7_addStep (xws yX7_addStep cX7_addStep 7 (some FieldType.int)) 4 77 g [.ref (ga g [20]), .int (nI p), .int kd, .int y] (xR g (xD h) I (xFh h) n) (some (.int (nI k))) (xR g (xD h) (mStp I p k kd y) (xFh h) n) 0 0 := by
  refine xM.of (by decide) (Nat.le_of_ble_eq_true rfl) ?_
  intro P_ e_ s m_ bl_ mt_ cd_ ls hx hb hr hown hlocks hml hnm hE hK hts hH hS hl
  have hl : lv_has ls 7 [(0, .ref (ga g [20])), (1, .int (nI p)), (2, .int kd), (3, .int y)] := hl
  refine lv_aload_n hx hb dX7_addStep_0 rfl (lv_at hl 0 rfl) ?_
  refine lv_iload_n hx hb dX7_addStep_1 rfl (lv_at hl 1 rfl) ?_
  refine x_V1 hx hb hml hown hE hS hl.1 cyX7_isPlan tw929 (c_X7_isPlan l g h I n ((nI p)) q (by omega) hz) ⟨Nat.le_of_ble_eq_true rfl, Nat.le_of_ble_eq_true rfl⟩ ⟨Nat.le_of_ble_eq_true rfl, Nat.le_of_ble_eq_true rfl⟩ (x_recv hK hH (id := [20]) (by first | trivial | (simp only [xD]; omega) | (simp [xD]; done) | (simp [xD]; omega)) (ci := 7) rfl (by decide) rfl) hH rfl rfl (Nat.le_of_ble_eq_true rfl) dX7_addStep_2 (fun H locs hH hS => ?_)
  refine lv_if_ne (tgt := 14) hx hb dX7_addStep_5 (by decide) (fun _ => ?_) (fun q_ => absurd q_ (fun z_ => by rw [sIn_nI hp (by omega)] at z_; exact absurd z_ (by decide)))
  refine lv_iload_n hx hb dX7_addStep_14 rfl (lv_at hl 2 rfl) ?_
  refine lv_bipush (v := 115) hx hb dX7_addStep_15 (by decide) ?_
  refine lv_icmp_eq (tgt := 32) hx hb dX7_addStep_17 (by decide) (fun c_17 => ?_) (fun c_17 => ?_)
  · skip
    refine lv_iconst (v := 1) hx hb dX7_addStep_32 (by decide) ?_
    refine lv_goto (tgt := 37) hx hb dX7_addStep_33 (by decide) ?_
    refine lv_istore (lv' := [(4, .int 1), (0, .ref (ga g [20])), (1, .int (nI p)), (2, .int kd), (3, .int y)]) hx hb dX7_addStep_37 hl (by decide) rfl (fun ls hl => ?_)
    rcases hpa with hy | ⟨j, hj, hy, hy2⟩
    · skip
      refine lv_iload_n hx hb dX7_addStep_39 rfl (lv_at hl 4 rfl) ?_
      refine lv_iconst (v := (-1)) hx hb dX7_addStep_40 (by decide) ?_
      refine lv_icmp_eq (tgt := 66) hx hb dX7_addStep_41 (by decide) (fun _ => ?_) (fun q_ => absurd hy q_)
      refine lv_iconst (v := 1) hx hb dX7_addStep_66 (by decide) ?_
      refine lv_goto (tgt := 71) hx hb dX7_addStep_67 (by decide) ?_
      refine lv_istore (lv' := [(5, .int 1), (4, .int 1), (0, .ref (ga g [20])), (1, .int (nI p)), (2, .int kd), (3, .int y)]) hx hb dX7_addStep_71 hl (by decide) rfl (fun ls hl => ?_)
      refine lv_aload_n hx hb dX7_addStep_73 rfl (lv_at hl 2 rfl) ?_
      refine lv_iload hx hb dX7_addStep_74 (lv_at hl 1 rfl) ?_
      refine lv_if_eq (tgt := 84) hx hb dX7_addStep_76 (by decide) (fun q_ => absurd q_ (by decide)) (fun _ => ?_)
      refine lv_iload hx hb dX7_addStep_79 (lv_at hl 0 rfl) ?_
      refine lv_if_ne (tgt := 88) hx hb dX7_addStep_81 (by decide) (fun _ => ?_) (fun q_ => absurd q_ (by decide))
      refine lv_aload_n hx hb dX7_addStep_88 rfl (lv_at hl 2 rfl) ?_
      refine x_get (C := RX7) (T := TX7) (N := 24) (ci := 7) hx hb hts iu7 hown hK hH (id := [20]) (by first | trivial | (simp only [xD]; omega) | (simp [xD]; done) | (simp [xD]; omega)) rfl rfl (by decide) 9 (by decide) (hts _ tw848) (fun _ h9 => h9) rfl (v := .ref (ga g [24, 9])) rfl dX7_addStep_89 ?_
      refine lv_iload_n hx hb dX7_addStep_92 rfl (lv_at hl 3 rfl) ?_
      refine x_bald hx hb hK hH (id := [24, 9]) (by first | trivial | (simp only [xD]; omega) | (simp [xD]; done) | (simp [xD]; omega)) (L := 3) rfl rfl p rfl (by omega) (by decide) dX7_addStep_93 ?_
      refine lv_if_ne (tgt := 108) hx hb dX7_addStep_94 (by decide) (fun q_ => absurd q_ (fun z_ => z_ hu)) (fun _ => ?_)
      refine lv_aload_n hx hb dX7_addStep_97 rfl (lv_at hl 2 rfl) ?_
      refine x_get (C := RX7) (T := TX7) (N := 24) (ci := 7) hx hb hts iu7 hown hK hH (id := [20]) (by first | trivial | (simp only [xD]; omega) | (simp [xD]; done) | (simp [xD]; omega)) rfl rfl (by decide) 8 (by decide) (hts _ tw847) (fun _ h9 => h9) rfl (v := .ref (ga g [24, 8])) rfl dX7_addStep_98 ?_
      refine lv_iload_n hx hb dX7_addStep_101 rfl (lv_at hl 3 rfl) ?_
      refine x_iald hx hb hK hH (id := [24, 8]) (by first | trivial | (simp only [xD]; omega) | (simp [xD]; done) | (simp [xD]; omega)) (L := 3) rfl rfl p rfl (by omega) (by decide) dX7_addStep_102 ?_
      rw [show (I [24, 8] p) = (nI k) from (hs)]
      refine lv_bipush (v := 8) hx hb dX7_addStep_103 (by decide) ?_
      refine lv_icmp_ne (tgt := 112) hx hb dX7_addStep_105 (by decide) (fun _ => ?_) (fun q_ => absurd q_ (fun z_ => absurd ((nI_eq (a := k) (b := 8) (by omega) (by omega)).mp z_) (by omega)))
      refine lv_iconst (v := 0) hx hb dX7_addStep_112 (by decide) ?_
      obtain ⟨I1_, hI1_⟩ : ∃ z, z = up I [20] 23 0 := ⟨_, rfl⟩
      refine x_put (C := RX7) (T := TX7) (N := 24) (ci := 7) hx hb hts iu7 tyX7 tyX7_ok nmX7 hown hK hH hS (id := [20]) (by first | trivial | (simp only [xD]; omega) | (simp [xD]; done) | (simp [xD]; omega)) rfl rfl (by decide) 23 (by decide) (hts _ tw862) (fun _ h9 => h9) (Or.inl rfl) (ty := .int) (v := .int 0) (by decide +kernel) rfl rfl (I' := I1_) (F' := (xFh h)) (fun i hi => by rw [hI1_]; exact up_id hi) (fun _ _ => rfl) (fun j9 => by rw [hI1_, up_row]; exact xv_upd (ci := 7) (k := 23) rfl j9) dX7_addStep_113 (fun H locs hH hS => ?_)
      refine lv_aload_n hx hb dX7_addStep_116 rfl (lv_at hl 2 rfl) ?_
      refine x_get (C := RX7) (T := TX7) (N := 24) (ci := 7) hx hb hts iu7 hown hK hH (id := [20]) (by first | trivial | (simp only [xD]; omega) | (simp [xD]; done) | (simp [xD]; omega)) rfl rfl (by decide) 23 (by decide) (hts _ tw862) (fun _ h9 => h9) rfl (v := .int 0) (congrArg Value.int (by rw [hI1_]; exact up_at)) dX7_addStep_117 ?_
      refine lv_if_le (tgt := 125) hx hb dX7_addStep_120 (by decide) (fun _ => ?_) (fun q_ => absurd (by decide) q_)
      refine lv_aload_n hx hb dX7_addStep_125 rfl (lv_at hl 2 rfl) ?_
      refine x_get (C := RX7) (T := TX7) (N := 24) (ci := 7) hx hb hts iu7 hown hK hH (id := [20]) (by first | trivial | (simp only [xD]; omega) | (simp [xD]; done) | (simp [xD]; omega)) rfl rfl (by decide) 8 (by decide) (hts _ tw847) (fun _ h9 => h9) rfl (v := .ref (ga g [24, 8])) rfl dX7_addStep_126 ?_
      refine lv_iload_n hx hb dX7_addStep_129 rfl (lv_at hl 3 rfl) ?_
      refine x_iald hx hb hK hH (id := [24, 8]) (by first | trivial | (simp only [xD]; omega) | (simp [xD]; done) | (simp [xD]; omega)) (L := 3) rfl rfl p rfl (by omega) (by decide) dX7_addStep_130 ?_
      rw [show (I1_ [24, 8] p) = (nI k) from (by first | (rw [hI1_]; simp [up]; done) | (rw [hI1_]; simp [up]; exact hs) | (rw [hI1_]; simp [up, hs]; done))]
      refine lv_istore (lv' := [(6, .int (nI k)), (5, .int 1), (4, .int 1), (0, .ref (ga g [20])), (1, .int (nI p)), (2, .int kd), (3, .int y)]) hx hb dX7_addStep_131 hl (by decide) rfl (fun ls hl => ?_)
      refine lv_aload_n hx hb dX7_addStep_133 rfl (lv_at hl 3 rfl) ?_
      refine x_get (C := RX7) (T := TX7) (N := 24) (ci := 7) hx hb hts iu7 hown hK hH (id := [20]) (by first | trivial | (simp only [xD]; omega) | (simp [xD]; done) | (simp [xD]; omega)) rfl rfl (by decide) 0 (by decide) (hts _ tw839) (fun _ h9 => h9) rfl (v := .ref (ga g [21, 0])) rfl dX7_addStep_134 ?_
      refine lv_iload_n hx hb dX7_addStep_137 rfl (lv_at hl 4 rfl) ?_
      refine x_aald hx hb hK hH (id := [21, 0]) (by first | trivial | (simp only [xD]; omega) | (simp [xD]; done) | (simp [xD]; omega)) 8 (L := 3) rfl (by decide) p rfl (by omega) (by decide) (v := .ref (ga g [22, 0, p])) (by show rq _ (if _ then _ else _) = _; rw [if_pos (show p < xLn 0 by show _ < 3; omega)]; rfl) dX7_addStep_138 ?_
      refine lv_iload hx hb dX7_addStep_139 (lv_at hl 0 rfl) ?_
      refine lv_iload_n hx hb dX7_addStep_141 rfl (lv_at hl 5 rfl) ?_
      obtain ⟨I2_, hI2_⟩ : ∃ z, z = up I1_ [22, 0, p] k kd := ⟨_, rfl⟩
      refine x_cast hx hb hK hH hS (id := [22, 0, p]) (by first | trivial | (simp only [xD]; omega) | (simp [xD]; done) | (simp [xD]; omega)) (L := 8) rfl k rfl (by omega) (by decide) hsc hI2_.symm dX7_addStep_142 (fun H locs hH hS => ?_)
      refine lv_aload_n hx hb dX7_addStep_143 rfl (lv_at hl 3 rfl) ?_
      refine x_get (C := RX7) (T := TX7) (N := 24) (ci := 7) hx hb hts iu7 hown hK hH (id := [20]) (by first | trivial | (simp only [xD]; omega) | (simp [xD]; done) | (simp [xD]; omega)) rfl rfl (by decide) 1 (by decide) (hts _ tw840) (fun _ h9 => h9) rfl (v := .ref (ga g [21, 1])) rfl dX7_addStep_144 ?_
      refine lv_iload_n hx hb dX7_addStep_147 rfl (lv_at hl 4 rfl) ?_
      refine x_aald hx hb hK hH (id := [21, 1]) (by first | trivial | (simp only [xD]; omega) | (simp [xD]; done) | (simp [xD]; omega)) 7 (L := 3) rfl (by decide) p rfl (by omega) (by decide) (v := .ref (ga g [22, 1, p])) (by show rq _ (if _ then _ else _) = _; rw [if_pos (show p < xLn 1 by show _ < 3; omega)]; rfl) dX7_addStep_148 ?_
      refine lv_iload hx hb dX7_addStep_149 (lv_at hl 0 rfl) ?_
      refine lv_iload_n hx hb dX7_addStep_151 rfl (lv_at hl 6 rfl) ?_
      obtain ⟨I3_, hI3_⟩ : ∃ z, z = up I2_ [22, 1, p] k y := ⟨_, rfl⟩
      refine x_iast hx hb hK hH hS (id := [22, 1, p]) (by first | trivial | (simp only [xD]; omega) | (simp [xD]; done) | (simp [xD]; omega)) (L := 8) rfl k rfl (by omega) (by decide) hI3_.symm dX7_addStep_152 (fun H locs hH hS => ?_)
      refine lv_aload_n hx hb dX7_addStep_153 rfl (lv_at hl 3 rfl) ?_
      refine x_get (C := RX7) (T := TX7) (N := 24) (ci := 7) hx hb hts iu7 hown hK hH (id := [20]) (by first | trivial | (simp only [xD]; omega) | (simp [xD]; done) | (simp [xD]; omega)) rfl rfl (by decide) 2 (by decide) (hts _ tw841) (fun _ h9 => h9) rfl (v := .ref (ga g [21, 2])) rfl dX7_addStep_154 ?_
      refine lv_iload_n hx hb dX7_addStep_157 rfl (lv_at hl 4 rfl) ?_
      refine x_aald hx hb hK hH (id := [21, 2]) (by first | trivial | (simp only [xD]; omega) | (simp [xD]; done) | (simp [xD]; omega)) 9 (L := 3) rfl (by decide) p rfl (by omega) (by decide) (v := .ref (ga g [22, 2, p])) (by show rq _ (if _ then _ else _) = _; rw [if_pos (show p < xLn 2 by show _ < 3; omega)]; rfl) dX7_addStep_158 ?_
      refine lv_iload hx hb dX7_addStep_159 (lv_at hl 0 rfl) ?_
      refine lv_iload_n hx hb dX7_addStep_161 rfl (lv_at hl 5 rfl) ?_
      refine lv_bipush (v := 116) hx hb dX7_addStep_162 (by decide) ?_
      refine lv_icmp_ne (tgt := 171) hx hb dX7_addStep_164 (by decide) (fun _ => ?_) (fun q_ => absurd q_ (fun z_ => by rw [c_17] at z_; exact absurd z_ (by decide)))
      refine lv_iconst (v := 0) hx hb dX7_addStep_171 (by decide) ?_
      obtain ⟨I4_, hI4_⟩ : ∃ z, z = up I3_ [22, 2, p] k 0 := ⟨_, rfl⟩
      refine x_bast hx hb hK hH hS (id := [22, 2, p]) (by first | trivial | (simp only [xD]; omega) | (simp [xD]; done) | (simp [xD]; omega)) (L := 8) rfl k rfl (by omega) (by decide) (by rfl) hI4_.symm dX7_addStep_172 (fun H locs hH hS => ?_)
      refine lv_aload_n hx hb dX7_addStep_173 rfl (lv_at hl 3 rfl) ?_
      refine x_get (C := RX7) (T := TX7) (N := 24) (ci := 7) hx hb hts iu7 hown hK hH (id := [20]) (by first | trivial | (simp only [xD]; omega) | (simp [xD]; done) | (simp [xD]; omega)) rfl rfl (by decide) 3 (by decide) (hts _ tw842) (fun _ h9 => h9) rfl (v := .ref (ga g [21, 3])) rfl dX7_addStep_174 ?_
      refine lv_iload_n hx hb dX7_addStep_177 rfl (lv_at hl 4 rfl) ?_
      refine x_aald hx hb hK hH (id := [21, 3]) (by first | trivial | (simp only [xD]; omega) | (simp [xD]; done) | (simp [xD]; omega)) 7 (L := 3) rfl (by decide) p rfl (by omega) (by decide) (v := .ref (ga g [22, 3, p])) (by show rq _ (if _ then _ else _) = _; rw [if_pos (show p < xLn 3 by show _ < 3; omega)]; rfl) dX7_addStep_178 ?_
      refine lv_iload hx hb dX7_addStep_179 (lv_at hl 0 rfl) ?_
      refine lv_bipush (v := 10) hx hb dX7_addStep_181 (by decide) ?_
      obtain ⟨I5_, hI5_⟩ : ∃ z, z = up I4_ [22, 3, p] k 10 := ⟨_, rfl⟩
      refine x_iast hx hb hK hH hS (id := [22, 3, p]) (by first | trivial | (simp only [xD]; omega) | (simp [xD]; done) | (simp [xD]; omega)) (L := 8) rfl k rfl (by omega) (by decide) hI5_.symm dX7_addStep_183 (fun H locs hH hS => ?_)
      refine lv_aload_n hx hb dX7_addStep_184 rfl (lv_at hl 3 rfl) ?_
      refine x_get (C := RX7) (T := TX7) (N := 24) (ci := 7) hx hb hts iu7 hown hK hH (id := [20]) (by first | trivial | (simp only [xD]; omega) | (simp [xD]; done) | (simp [xD]; omega)) rfl rfl (by decide) 8 (by decide) (hts _ tw847) (fun _ h9 => h9) rfl (v := .ref (ga g [24, 8])) rfl dX7_addStep_185 ?_
      refine lv_iload_n hx hb dX7_addStep_188 rfl (lv_at hl 4 rfl) ?_
      refine lv_dup2_11 hx hb dX7_addStep_189 rfl rfl ?_
      refine x_iald hx hb hK hH (id := [24, 8]) (by first | trivial | (simp only [xD]; omega) | (simp [xD]; done) | (simp [xD]; omega)) (L := 3) rfl rfl p rfl (by omega) (by decide) dX7_addStep_190 ?_
      rw [show (I5_ [24, 8] p) = (nI k) from (by first | (rw [hI5_, hI4_, hI3_, hI2_, hI1_]; simp [up]; done) | (rw [hI5_, hI4_, hI3_, hI2_, hI1_]; simp [up]; exact hs) | (rw [hI5_, hI4_, hI3_, hI2_, hI1_]; simp [up, hs]; done))]
      refine lv_iconst (v := 1) hx hb dX7_addStep_191 (by decide) ?_
      refine lv_iadd hx hb dX7_addStep_192 ?_
      rw [show ((nI k) + 1) = (nI (k + 1)) from (nI_1 k)]
      obtain ⟨I6_, hI6_⟩ : ∃ z, z = up I5_ [24, 8] p (nI (k + 1)) := ⟨_, rfl⟩
      refine x_iast hx hb hK hH hS (id := [24, 8]) (by first | trivial | (simp only [xD]; omega) | (simp [xD]; done) | (simp [xD]; omega)) (L := 3) rfl p rfl (by omega) (by decide) hI6_.symm dX7_addStep_193 (fun H locs hH hS => ?_)
      refine lv_iload hx hb dX7_addStep_194 (lv_at hl 0 rfl) ?_
      exact x_iret hx hb hr hlocks hS dX7_addStep_196 rfl (by rw [hI6_, hI5_, hI4_, hI3_, hI2_, hI1_] at hH; unfold mStp; rw [show b01 (decide (kd = 116)) = 0 from (b01_f (decide_eq_false (fun z_ => by rw [c_17] at z_; exact absurd z_ (by decide)))).symm]; exact hH)
    · skip
      subst hy
      refine lv_iload_n hx hb dX7_addStep_39 rfl (lv_at hl 4 rfl) ?_
      refine lv_iconst (v := (-1)) hx hb dX7_addStep_40 (by decide) ?_
      refine lv_icmp_eq (tgt := 66) hx hb dX7_addStep_41 (by decide) (fun q_ => absurd q_ (nI_m1 (by omega))) (fun _ => ?_)
      refine lv_aload_n hx hb dX7_addStep_44 rfl (lv_at hl 1 rfl) ?_
      refine lv_iload_n hx hb dX7_addStep_45 rfl (lv_at hl 2 rfl) ?_
      refine lv_iload_n hx hb dX7_addStep_46 rfl (lv_at hl 4 rfl) ?_
      refine x_V1 hx hb hml hown hE hS hl.1 cyX7_isStep tw936 (c_X7_isStep_1 l g h I n q hq hz p hp k hk hs ((nI j))) ⟨Nat.le_of_ble_eq_true rfl, Nat.le_of_ble_eq_true rfl⟩ ⟨Nat.le_of_ble_eq_true rfl, Nat.le_of_ble_eq_true rfl⟩ (x_recv hK hH (id := [20]) (by first | trivial | (simp only [xD]; omega) | (simp [xD]; done) | (simp [xD]; omega)) (ci := 7) rfl (by decide) rfl) hH rfl rfl (Nat.le_of_ble_eq_true rfl) dX7_addStep_47 (fun H locs hH hS => ?_)
      refine lv_if_eq (tgt := 70) hx hb dX7_addStep_50 (by decide) (fun q_ => absurd q_ (fun z_ => by rw [sIn_nI hj (by omega)] at z_; exact absurd z_ (by decide))) (fun _ => ?_)
      refine lv_aload_n hx hb dX7_addStep_53 rfl (lv_at hl 1 rfl) ?_
      refine x_get (C := RX7) (T := TX7) (N := 24) (ci := 7) hx hb hts iu7 hown hK hH (id := [20]) (by first | trivial | (simp only [xD]; omega) | (simp [xD]; done) | (simp [xD]; omega)) rfl rfl (by decide) 0 (by decide) (hts _ tw839) (fun _ h9 => h9) rfl (v := .ref (ga g [21, 0])) rfl dX7_addStep_54 ?_
      refine lv_iload_n hx hb dX7_addStep_57 rfl (lv_at hl 2 rfl) ?_
      refine x_aald hx hb hK hH (id := [21, 0]) (by first | trivial | (simp only [xD]; omega) | (simp [xD]; done) | (simp [xD]; omega)) 8 (L := 3) rfl (by decide) p rfl (by omega) (by decide) (v := .ref (ga g [22, 0, p])) (by show rq _ (if _ then _ else _) = _; rw [if_pos (show p < xLn 0 by show _ < 3; omega)]; rfl) dX7_addStep_58 ?_
      refine lv_iload_n hx hb dX7_addStep_59 rfl (lv_at hl 4 rfl) ?_
      refine x_cald hx hb hK hH (id := [22, 0, p]) (by first | trivial | (simp only [xD]; omega) | (simp [xD]; done) | (simp [xD]; omega)) (L := 8) rfl rfl j rfl (by omega) (by decide) dX7_addStep_60 ?_
      refine lv_bipush (v := 115) hx hb dX7_addStep_61 (by decide) ?_
      refine lv_icmp_ne (tgt := 70) hx hb dX7_addStep_63 (by decide) (fun q_ => absurd q_ (fun z_ => z_ hy2)) (fun _ => ?_)
      refine lv_iconst (v := 1) hx hb dX7_addStep_66 (by decide) ?_
      refine lv_goto (tgt := 71) hx hb dX7_addStep_67 (by decide) ?_
      refine lv_istore (lv' := [(5, .int 1), (4, .int 1), (0, .ref (ga g [20])), (1, .int (nI p)), (2, .int kd), (3, .int (nI j))]) hx hb dX7_addStep_71 hl (by decide) rfl (fun ls hl => ?_)
      refine lv_aload_n hx hb dX7_addStep_73 rfl (lv_at hl 2 rfl) ?_
      refine lv_iload hx hb dX7_addStep_74 (lv_at hl 1 rfl) ?_
      refine lv_if_eq (tgt := 84) hx hb dX7_addStep_76 (by decide) (fun q_ => absurd q_ (by decide)) (fun _ => ?_)
      refine lv_iload hx hb dX7_addStep_79 (lv_at hl 0 rfl) ?_
      refine lv_if_ne (tgt := 88) hx hb dX7_addStep_81 (by decide) (fun _ => ?_) (fun q_ => absurd q_ (by decide))
      refine lv_aload_n hx hb dX7_addStep_88 rfl (lv_at hl 2 rfl) ?_
      refine x_get (C := RX7) (T := TX7) (N := 24) (ci := 7) hx hb hts iu7 hown hK hH (id := [20]) (by first | trivial | (simp only [xD]; omega) | (simp [xD]; done) | (simp [xD]; omega)) rfl rfl (by decide) 9 (by decide) (hts _ tw848) (fun _ h9 => h9) rfl (v := .ref (ga g [24, 9])) rfl dX7_addStep_89 ?_
      refine lv_iload_n hx hb dX7_addStep_92 rfl (lv_at hl 3 rfl) ?_
      refine x_bald hx hb hK hH (id := [24, 9]) (by first | trivial | (simp only [xD]; omega) | (simp [xD]; done) | (simp [xD]; omega)) (L := 3) rfl rfl p rfl (by omega) (by decide) dX7_addStep_93 ?_
      refine lv_if_ne (tgt := 108) hx hb dX7_addStep_94 (by decide) (fun q_ => absurd q_ (fun z_ => z_ hu)) (fun _ => ?_)
      refine lv_aload_n hx hb dX7_addStep_97 rfl (lv_at hl 2 rfl) ?_
      refine x_get (C := RX7) (T := TX7) (N := 24) (ci := 7) hx hb hts iu7 hown hK hH (id := [20]) (by first | trivial | (simp only [xD]; omega) | (simp [xD]; done) | (simp [xD]; omega)) rfl rfl (by decide) 8 (by decide) (hts _ tw847) (fun _ h9 => h9) rfl (v := .ref (ga g [24, 8])) rfl dX7_addStep_98 ?_
      refine lv_iload_n hx hb dX7_addStep_101 rfl (lv_at hl 3 rfl) ?_
      refine x_iald hx hb hK hH (id := [24, 8]) (by first | trivial | (simp only [xD]; omega) | (simp [xD]; done) | (simp [xD]; omega)) (L := 3) rfl rfl p rfl (by omega) (by decide) dX7_addStep_102 ?_
      rw [show (I [24, 8] p) = (nI k) from (hs)]
      refine lv_bipush (v := 8) hx hb dX7_addStep_103 (by decide) ?_
      refine lv_icmp_ne (tgt := 112) hx hb dX7_addStep_105 (by decide) (fun _ => ?_) (fun q_ => absurd q_ (fun z_ => absurd ((nI_eq (a := k) (b := 8) (by omega) (by omega)).mp z_) (by omega)))
      refine lv_iconst (v := 0) hx hb dX7_addStep_112 (by decide) ?_
      obtain ⟨I7_, hI7_⟩ : ∃ z, z = up I [20] 23 0 := ⟨_, rfl⟩
      refine x_put (C := RX7) (T := TX7) (N := 24) (ci := 7) hx hb hts iu7 tyX7 tyX7_ok nmX7 hown hK hH hS (id := [20]) (by first | trivial | (simp only [xD]; omega) | (simp [xD]; done) | (simp [xD]; omega)) rfl rfl (by decide) 23 (by decide) (hts _ tw862) (fun _ h9 => h9) (Or.inl rfl) (ty := .int) (v := .int 0) (by decide +kernel) rfl rfl (I' := I7_) (F' := (xFh h)) (fun i hi => by rw [hI7_]; exact up_id hi) (fun _ _ => rfl) (fun j9 => by rw [hI7_, up_row]; exact xv_upd (ci := 7) (k := 23) rfl j9) dX7_addStep_113 (fun H locs hH hS => ?_)
      refine lv_aload_n hx hb dX7_addStep_116 rfl (lv_at hl 2 rfl) ?_
      refine x_get (C := RX7) (T := TX7) (N := 24) (ci := 7) hx hb hts iu7 hown hK hH (id := [20]) (by first | trivial | (simp only [xD]; omega) | (simp [xD]; done) | (simp [xD]; omega)) rfl rfl (by decide) 23 (by decide) (hts _ tw862) (fun _ h9 => h9) rfl (v := .int 0) (congrArg Value.int (by rw [hI7_]; exact up_at)) dX7_addStep_117 ?_
      refine lv_if_le (tgt := 125) hx hb dX7_addStep_120 (by decide) (fun _ => ?_) (fun q_ => absurd (by decide) q_)
      refine lv_aload_n hx hb dX7_addStep_125 rfl (lv_at hl 2 rfl) ?_
      refine x_get (C := RX7) (T := TX7) (N := 24) (ci := 7) hx hb hts iu7 hown hK hH (id := [20]) (by first | trivial | (simp only [xD]; omega) | (simp [xD]; done) | (simp [xD]; omega)) rfl rfl (by decide) 8 (by decide) (hts _ tw847) (fun _ h9 => h9) rfl (v := .ref (ga g [24, 8])) rfl dX7_addStep_126 ?_
      refine lv_iload_n hx hb dX7_addStep_129 rfl (lv_at hl 3 rfl) ?_
      refine x_iald hx hb hK hH (id := [24, 8]) (by first | trivial | (simp only [xD]; omega) | (simp [xD]; done) | (simp [xD]; omega)) (L := 3) rfl rfl p rfl (by omega) (by decide) dX7_addStep_130 ?_
      rw [show (I7_ [24, 8] p) = (nI k) from (by first | (rw [hI7_]; simp [up]; done) | (rw [hI7_]; simp [up]; exact hs) | (rw [hI7_]; simp [up, hs]; done))]
      refine lv_istore (lv' := [(6, .int (nI k)), (5, .int 1), (4, .int 1), (0, .ref (ga g [20])), (1, .int (nI p)), (2, .int kd), (3, .int (nI j))]) hx hb dX7_addStep_131 hl (by decide) rfl (fun ls hl => ?_)
      refine lv_aload_n hx hb dX7_addStep_133 rfl (lv_at hl 3 rfl) ?_
      refine x_get (C := RX7) (T := TX7) (N := 24) (ci := 7) hx hb hts iu7 hown hK hH (id := [20]) (by first | trivial | (simp only [xD]; omega) | (simp [xD]; done) | (simp [xD]; omega)) rfl rfl (by decide) 0 (by decide) (hts _ tw839) (fun _ h9 => h9) rfl (v := .ref (ga g [21, 0])) rfl dX7_addStep_134 ?_
      refine lv_iload_n hx hb dX7_addStep_137 rfl (lv_at hl 4 rfl) ?_
      refine x_aald hx hb hK hH (id := [21, 0]) (by first | trivial | (simp only [xD]; omega) | (simp [xD]; done) | (simp [xD]; omega)) 8 (L := 3) rfl (by decide) p rfl (by omega) (by decide) (v := .ref (ga g [22, 0, p])) (by show rq _ (if _ then _ else _) = _; rw [if_pos (show p < xLn 0 by show _ < 3; omega)]; rfl) dX7_addStep_138 ?_
      refine lv_iload hx hb dX7_addStep_139 (lv_at hl 0 rfl) ?_
      refine lv_iload_n hx hb dX7_addStep_141 rfl (lv_at hl 5 rfl) ?_
      obtain ⟨I8_, hI8_⟩ : ∃ z, z = up I7_ [22, 0, p] k kd := ⟨_, rfl⟩
      refine x_cast hx hb hK hH hS (id := [22, 0, p]) (by first | trivial | (simp only [xD]; omega) | (simp [xD]; done) | (simp [xD]; omega)) (L := 8) rfl k rfl (by omega) (by decide) hsc hI8_.symm dX7_addStep_142 (fun H locs hH hS => ?_)
      refine lv_aload_n hx hb dX7_addStep_143 rfl (lv_at hl 3 rfl) ?_
      refine x_get (C := RX7) (T := TX7) (N := 24) (ci := 7) hx hb hts iu7 hown hK hH (id := [20]) (by first | trivial | (simp only [xD]; omega) | (simp [xD]; done) | (simp [xD]; omega)) rfl rfl (by decide) 1 (by decide) (hts _ tw840) (fun _ h9 => h9) rfl (v := .ref (ga g [21, 1])) rfl dX7_addStep_144 ?_
      refine lv_iload_n hx hb dX7_addStep_147 rfl (lv_at hl 4 rfl) ?_
      refine x_aald hx hb hK hH (id := [21, 1]) (by first | trivial | (simp only [xD]; omega) | (simp [xD]; done) | (simp [xD]; omega)) 7 (L := 3) rfl (by decide) p rfl (by omega) (by decide) (v := .ref (ga g [22, 1, p])) (by show rq _ (if _ then _ else _) = _; rw [if_pos (show p < xLn 1 by show _ < 3; omega)]; rfl) dX7_addStep_148 ?_
      refine lv_iload hx hb dX7_addStep_149 (lv_at hl 0 rfl) ?_
      refine lv_iload_n hx hb dX7_addStep_151 rfl (lv_at hl 6 rfl) ?_
      obtain ⟨I9_, hI9_⟩ : ∃ z, z = up I8_ [22, 1, p] k (nI j) := ⟨_, rfl⟩
      refine x_iast hx hb hK hH hS (id := [22, 1, p]) (by first | trivial | (simp only [xD]; omega) | (simp [xD]; done) | (simp [xD]; omega)) (L := 8) rfl k rfl (by omega) (by decide) hI9_.symm dX7_addStep_152 (fun H locs hH hS => ?_)
      refine lv_aload_n hx hb dX7_addStep_153 rfl (lv_at hl 3 rfl) ?_
      refine x_get (C := RX7) (T := TX7) (N := 24) (ci := 7) hx hb hts iu7 hown hK hH (id := [20]) (by first | trivial | (simp only [xD]; omega) | (simp [xD]; done) | (simp [xD]; omega)) rfl rfl (by decide) 2 (by decide) (hts _ tw841) (fun _ h9 => h9) rfl (v := .ref (ga g [21, 2])) rfl dX7_addStep_154 ?_
      refine lv_iload_n hx hb dX7_addStep_157 rfl (lv_at hl 4 rfl) ?_
      refine x_aald hx hb hK hH (id := [21, 2]) (by first | trivial | (simp only [xD]; omega) | (simp [xD]; done) | (simp [xD]; omega)) 9 (L := 3) rfl (by decide) p rfl (by omega) (by decide) (v := .ref (ga g [22, 2, p])) (by show rq _ (if _ then _ else _) = _; rw [if_pos (show p < xLn 2 by show _ < 3; omega)]; rfl) dX7_addStep_158 ?_
      refine lv_iload hx hb dX7_addStep_159 (lv_at hl 0 rfl) ?_
      refine lv_iload_n hx hb dX7_addStep_161 rfl (lv_at hl 5 rfl) ?_
      refine lv_bipush (v := 116) hx hb dX7_addStep_162 (by decide) ?_
      refine lv_icmp_ne (tgt := 171) hx hb dX7_addStep_164 (by decide) (fun _ => ?_) (fun q_ => absurd q_ (fun z_ => by rw [c_17] at z_; exact absurd z_ (by decide)))
      refine lv_iconst (v := 0) hx hb dX7_addStep_171 (by decide) ?_
      obtain ⟨I10_, hI10_⟩ : ∃ z, z = up I9_ [22, 2, p] k 0 := ⟨_, rfl⟩
      refine x_bast hx hb hK hH hS (id := [22, 2, p]) (by first | trivial | (simp only [xD]; omega) | (simp [xD]; done) | (simp [xD]; omega)) (L := 8) rfl k rfl (by omega) (by decide) (by rfl) hI10_.symm dX7_addStep_172 (fun H locs hH hS => ?_)
      refine lv_aload_n hx hb dX7_addStep_173 rfl (lv_at hl 3 rfl) ?_
      refine x_get (C := RX7) (T := TX7) (N := 24) (ci := 7) hx hb hts iu7 hown hK hH (id := [20]) (by first | trivial | (simp only [xD]; omega) | (simp [xD]; done) | (simp [xD]; omega)) rfl rfl (by decide) 3 (by decide) (hts _ tw842) (fun _ h9 => h9) rfl (v := .ref (ga g [21, 3])) rfl dX7_addStep_174 ?_
      refine lv_iload_n hx hb dX7_addStep_177 rfl (lv_at hl 4 rfl) ?_
      refine x_aald hx hb hK hH (id := [21, 3]) (by first | trivial | (simp only [xD]; omega) | (simp [xD]; done) | (simp [xD]; omega)) 7 (L := 3) rfl (by decide) p rfl (by omega) (by decide) (v := .ref (ga g [22, 3, p])) (by show rq _ (if _ then _ else _) = _; rw [if_pos (show p < xLn 3 by show _ < 3; omega)]; rfl) dX7_addStep_178 ?_
      refine lv_iload hx hb dX7_addStep_179 (lv_at hl 0 rfl) ?_
      refine lv_bipush (v := 10) hx hb dX7_addStep_181 (by decide) ?_
      obtain ⟨I11_, hI11_⟩ : ∃ z, z = up I10_ [22, 3, p] k 10 := ⟨_, rfl⟩
      refine x_iast hx hb hK hH hS (id := [22, 3, p]) (by first | trivial | (simp only [xD]; omega) | (simp [xD]; done) | (simp [xD]; omega)) (L := 8) rfl k rfl (by omega) (by decide) hI11_.symm dX7_addStep_183 (fun H locs hH hS => ?_)
      refine lv_aload_n hx hb dX7_addStep_184 rfl (lv_at hl 3 rfl) ?_
      refine x_get (C := RX7) (T := TX7) (N := 24) (ci := 7) hx hb hts iu7 hown hK hH (id := [20]) (by first | trivial | (simp only [xD]; omega) | (simp [xD]; done) | (simp [xD]; omega)) rfl rfl (by decide) 8 (by decide) (hts _ tw847) (fun _ h9 => h9) rfl (v := .ref (ga g [24, 8])) rfl dX7_addStep_185 ?_
      refine lv_iload_n hx hb dX7_addStep_188 rfl (lv_at hl 4 rfl) ?_
      refine lv_dup2_11 hx hb dX7_addStep_189 rfl rfl ?_
      refine x_iald hx hb hK hH (id := [24, 8]) (by first | trivial | (simp only [xD]; omega) | (simp [xD]; done) | (simp [xD]; omega)) (L := 3) rfl rfl p rfl (by omega) (by decide) dX7_addStep_190 ?_
      rw [show (I11_ [24, 8] p) = (nI k) from (by first | (rw [hI11_, hI10_, hI9_, hI8_, hI7_]; simp [up]; done) | (rw [hI11_, hI10_, hI9_, hI8_, hI7_]; simp [up]; exact hs) | (rw [hI11_, hI10_, hI9_, hI8_, hI7_]; simp [up, hs]; done))]
      refine lv_iconst (v := 1) hx hb dX7_addStep_191 (by decide) ?_
      refine lv_iadd hx hb dX7_addStep_192 ?_
      rw [show ((nI k) + 1) = (nI (k + 1)) from (nI_1 k)]
      obtain ⟨I12_, hI12_⟩ : ∃ z, z = up I11_ [24, 8] p (nI (k + 1)) := ⟨_, rfl⟩
      refine x_iast hx hb hK hH hS (id := [24, 8]) (by first | trivial | (simp only [xD]; omega) | (simp [xD]; done) | (simp [xD]; omega)) (L := 3) rfl p rfl (by omega) (by decide) hI12_.symm dX7_addStep_193 (fun H locs hH hS => ?_)
      refine lv_iload hx hb dX7_addStep_194 (lv_at hl 0 rfl) ?_
      exact x_iret hx hb hr hlocks hS dX7_addStep_196 rfl (by rw [hI12_, hI11_, hI10_, hI9_, hI8_, hI7_] at hH; unfold mStp; rw [show b01 (decide (kd = 116)) = 0 from (b01_f (decide_eq_false (fun z_ => by rw [c_17] at z_; exact absurd z_ (by decide)))).symm]; exact hH)
  · skip
    refine lv_iload_n hx hb dX7_addStep_20 rfl (lv_at hl 2 rfl) ?_
    refine lv_bipush (v := 116) hx hb dX7_addStep_21 (by decide) ?_
    refine lv_icmp_eq (tgt := 32) hx hb dX7_addStep_23 (by decide) (fun c_23 => ?_) (fun c_23 => ?_)
    · skip
      refine lv_iconst (v := 1) hx hb dX7_addStep_32 (by decide) ?_
      refine lv_goto (tgt := 37) hx hb dX7_addStep_33 (by decide) ?_
      refine lv_istore (lv' := [(4, .int 1), (0, .ref (ga g [20])), (1, .int (nI p)), (2, .int kd), (3, .int y)]) hx hb dX7_addStep_37 hl (by decide) rfl (fun ls hl => ?_)
      rcases hpa with hy | ⟨j, hj, hy, hy2⟩
      · skip
        refine lv_iload_n hx hb dX7_addStep_39 rfl (lv_at hl 4 rfl) ?_
        refine lv_iconst (v := (-1)) hx hb dX7_addStep_40 (by decide) ?_
        refine lv_icmp_eq (tgt := 66) hx hb dX7_addStep_41 (by decide) (fun _ => ?_) (fun q_ => absurd hy q_)
        refine lv_iconst (v := 1) hx hb dX7_addStep_66 (by decide) ?_
        refine lv_goto (tgt := 71) hx hb dX7_addStep_67 (by decide) ?_
        refine lv_istore (lv' := [(5, .int 1), (4, .int 1), (0, .ref (ga g [20])), (1, .int (nI p)), (2, .int kd), (3, .int y)]) hx hb dX7_addStep_71 hl (by decide) rfl (fun ls hl => ?_)
        refine lv_aload_n hx hb dX7_addStep_73 rfl (lv_at hl 2 rfl) ?_
        refine lv_iload hx hb dX7_addStep_74 (lv_at hl 1 rfl) ?_
        refine lv_if_eq (tgt := 84) hx hb dX7_addStep_76 (by decide) (fun q_ => absurd q_ (by decide)) (fun _ => ?_)
        refine lv_iload hx hb dX7_addStep_79 (lv_at hl 0 rfl) ?_
        refine lv_if_ne (tgt := 88) hx hb dX7_addStep_81 (by decide) (fun _ => ?_) (fun q_ => absurd q_ (by decide))
        refine lv_aload_n hx hb dX7_addStep_88 rfl (lv_at hl 2 rfl) ?_
        refine x_get (C := RX7) (T := TX7) (N := 24) (ci := 7) hx hb hts iu7 hown hK hH (id := [20]) (by first | trivial | (simp only [xD]; omega) | (simp [xD]; done) | (simp [xD]; omega)) rfl rfl (by decide) 9 (by decide) (hts _ tw848) (fun _ h9 => h9) rfl (v := .ref (ga g [24, 9])) rfl dX7_addStep_89 ?_
        refine lv_iload_n hx hb dX7_addStep_92 rfl (lv_at hl 3 rfl) ?_
        refine x_bald hx hb hK hH (id := [24, 9]) (by first | trivial | (simp only [xD]; omega) | (simp [xD]; done) | (simp [xD]; omega)) (L := 3) rfl rfl p rfl (by omega) (by decide) dX7_addStep_93 ?_
        refine lv_if_ne (tgt := 108) hx hb dX7_addStep_94 (by decide) (fun q_ => absurd q_ (fun z_ => z_ hu)) (fun _ => ?_)
        refine lv_aload_n hx hb dX7_addStep_97 rfl (lv_at hl 2 rfl) ?_
        refine x_get (C := RX7) (T := TX7) (N := 24) (ci := 7) hx hb hts iu7 hown hK hH (id := [20]) (by first | trivial | (simp only [xD]; omega) | (simp [xD]; done) | (simp [xD]; omega)) rfl rfl (by decide) 8 (by decide) (hts _ tw847) (fun _ h9 => h9) rfl (v := .ref (ga g [24, 8])) rfl dX7_addStep_98 ?_
        refine lv_iload_n hx hb dX7_addStep_101 rfl (lv_at hl 3 rfl) ?_
        refine x_iald hx hb hK hH (id := [24, 8]) (by first | trivial | (simp only [xD]; omega) | (simp [xD]; done) | (simp [xD]; omega)) (L := 3) rfl rfl p rfl (by omega) (by decide) dX7_addStep_102 ?_
        rw [show (I [24, 8] p) = (nI k) from (hs)]
        refine lv_bipush (v := 8) hx hb dX7_addStep_103 (by decide) ?_
        refine lv_icmp_ne (tgt := 112) hx hb dX7_addStep_105 (by decide) (fun _ => ?_) (fun q_ => absurd q_ (fun z_ => absurd ((nI_eq (a := k) (b := 8) (by omega) (by omega)).mp z_) (by omega)))
        refine lv_iconst (v := 0) hx hb dX7_addStep_112 (by decide) ?_
        obtain ⟨I13_, hI13_⟩ : ∃ z, z = up I [20] 23 0 := ⟨_, rfl⟩
        refine x_put (C := RX7) (T := TX7) (N := 24) (ci := 7) hx hb hts iu7 tyX7 tyX7_ok nmX7 hown hK hH hS (id := [20]) (by first | trivial | (simp only [xD]; omega) | (simp [xD]; done) | (simp [xD]; omega)) rfl rfl (by decide) 23 (by decide) (hts _ tw862) (fun _ h9 => h9) (Or.inl rfl) (ty := .int) (v := .int 0) (by decide +kernel) rfl rfl (I' := I13_) (F' := (xFh h)) (fun i hi => by rw [hI13_]; exact up_id hi) (fun _ _ => rfl) (fun j9 => by rw [hI13_, up_row]; exact xv_upd (ci := 7) (k := 23) rfl j9) dX7_addStep_113 (fun H locs hH hS => ?_)
        refine lv_aload_n hx hb dX7_addStep_116 rfl (lv_at hl 2 rfl) ?_
        refine x_get (C := RX7) (T := TX7) (N := 24) (ci := 7) hx hb hts iu7 hown hK hH (id := [20]) (by first | trivial | (simp only [xD]; omega) | (simp [xD]; done) | (simp [xD]; omega)) rfl rfl (by decide) 23 (by decide) (hts _ tw862) (fun _ h9 => h9) rfl (v := .int 0) (congrArg Value.int (by rw [hI13_]; exact up_at)) dX7_addStep_117 ?_
        refine lv_if_le (tgt := 125) hx hb dX7_addStep_120 (by decide) (fun _ => ?_) (fun q_ => absurd (by decide) q_)
        refine lv_aload_n hx hb dX7_addStep_125 rfl (lv_at hl 2 rfl) ?_
        refine x_get (C := RX7) (T := TX7) (N := 24) (ci := 7) hx hb hts iu7 hown hK hH (id := [20]) (by first | trivial | (simp only [xD]; omega) | (simp [xD]; done) | (simp [xD]; omega)) rfl rfl (by decide) 8 (by decide) (hts _ tw847) (fun _ h9 => h9) rfl (v := .ref (ga g [24, 8])) rfl dX7_addStep_126 ?_
        refine lv_iload_n hx hb dX7_addStep_129 rfl (lv_at hl 3 rfl) ?_
        refine x_iald hx hb hK hH (id := [24, 8]) (by first | trivial | (simp only [xD]; omega) | (simp [xD]; done) | (simp [xD]; omega)) (L := 3) rfl rfl p rfl (by omega) (by decide) dX7_addStep_130 ?_
        rw [show (I13_ [24, 8] p) = (nI k) from (by first | (rw [hI13_]; simp [up]; done) | (rw [hI13_]; simp [up]; exact hs) | (rw [hI13_]; simp [up, hs]; done))]
        refine lv_istore (lv' := [(6, .int (nI k)), (5, .int 1), (4, .int 1), (0, .ref (ga g [20])), (1, .int (nI p)), (2, .int kd), (3, .int y)]) hx hb dX7_addStep_131 hl (by decide) rfl (fun ls hl => ?_)
        refine lv_aload_n hx hb dX7_addStep_133 rfl (lv_at hl 3 rfl) ?_
        refine x_get (C := RX7) (T := TX7) (N := 24) (ci := 7) hx hb hts iu7 hown hK hH (id := [20]) (by first | trivial | (simp only [xD]; omega) | (simp [xD]; done) | (simp [xD]; omega)) rfl rfl (by decide) 0 (by decide) (hts _ tw839) (fun _ h9 => h9) rfl (v := .ref (ga g [21, 0])) rfl dX7_addStep_134 ?_
        refine lv_iload_n hx hb dX7_addStep_137 rfl (lv_at hl 4 rfl) ?_
        refine x_aald hx hb hK hH (id := [21, 0]) (by first | trivial | (simp only [xD]; omega) | (simp [xD]; done) | (simp [xD]; omega)) 8 (L := 3) rfl (by decide) p rfl (by omega) (by decide) (v := .ref (ga g [22, 0, p])) (by show rq _ (if _ then _ else _) = _; rw [if_pos (show p < xLn 0 by show _ < 3; omega)]; rfl) dX7_addStep_138 ?_
        refine lv_iload hx hb dX7_addStep_139 (lv_at hl 0 rfl) ?_
        refine lv_iload_n hx hb dX7_addStep_141 rfl (lv_at hl 5 rfl) ?_
        obtain ⟨I14_, hI14_⟩ : ∃ z, z = up I13_ [22, 0, p] k kd := ⟨_, rfl⟩
        refine x_cast hx hb hK hH hS (id := [22, 0, p]) (by first | trivial | (simp only [xD]; omega) | (simp [xD]; done) | (simp [xD]; omega)) (L := 8) rfl k rfl (by omega) (by decide) hsc hI14_.symm dX7_addStep_142 (fun H locs hH hS => ?_)
        refine lv_aload_n hx hb dX7_addStep_143 rfl (lv_at hl 3 rfl) ?_
        refine x_get (C := RX7) (T := TX7) (N := 24) (ci := 7) hx hb hts iu7 hown hK hH (id := [20]) (by first | trivial | (simp only [xD]; omega) | (simp [xD]; done) | (simp [xD]; omega)) rfl rfl (by decide) 1 (by decide) (hts _ tw840) (fun _ h9 => h9) rfl (v := .ref (ga g [21, 1])) rfl dX7_addStep_144 ?_
        refine lv_iload_n hx hb dX7_addStep_147 rfl (lv_at hl 4 rfl) ?_
        refine x_aald hx hb hK hH (id := [21, 1]) (by first | trivial | (simp only [xD]; omega) | (simp [xD]; done) | (simp [xD]; omega)) 7 (L := 3) rfl (by decide) p rfl (by omega) (by decide) (v := .ref (ga g [22, 1, p])) (by show rq _ (if _ then _ else _) = _; rw [if_pos (show p < xLn 1 by show _ < 3; omega)]; rfl) dX7_addStep_148 ?_
        refine lv_iload hx hb dX7_addStep_149 (lv_at hl 0 rfl) ?_
        refine lv_iload_n hx hb dX7_addStep_151 rfl (lv_at hl 6 rfl) ?_
        obtain ⟨I15_, hI15_⟩ : ∃ z, z = up I14_ [22, 1, p] k y := ⟨_, rfl⟩
        refine x_iast hx hb hK hH hS (id := [22, 1, p]) (by first | trivial | (simp only [xD]; omega) | (simp [xD]; done) | (simp [xD]; omega)) (L := 8) rfl k rfl (by omega) (by decide) hI15_.symm dX7_addStep_152 (fun H locs hH hS => ?_)
        refine lv_aload_n hx hb dX7_addStep_153 rfl (lv_at hl 3 rfl) ?_
        refine x_get (C := RX7) (T := TX7) (N := 24) (ci := 7) hx hb hts iu7 hown hK hH (id := [20]) (by first | trivial | (simp only [xD]; omega) | (simp [xD]; done) | (simp [xD]; omega)) rfl rfl (by decide) 2 (by decide) (hts _ tw841) (fun _ h9 => h9) rfl (v := .ref (ga g [21, 2])) rfl dX7_addStep_154 ?_
        refine lv_iload_n hx hb dX7_addStep_157 rfl (lv_at hl 4 rfl) ?_
        refine x_aald hx hb hK hH (id := [21, 2]) (by first | trivial | (simp only [xD]; omega) | (simp [xD]; done) | (simp [xD]; omega)) 9 (L := 3) rfl (by decide) p rfl (by omega) (by decide) (v := .ref (ga g [22, 2, p])) (by show rq _ (if _ then _ else _) = _; rw [if_pos (show p < xLn 2 by show _ < 3; omega)]; rfl) dX7_addStep_158 ?_
        refine lv_iload hx hb dX7_addStep_159 (lv_at hl 0 rfl) ?_
        refine lv_iload_n hx hb dX7_addStep_161 rfl (lv_at hl 5 rfl) ?_
        refine lv_bipush (v := 116) hx hb dX7_addStep_162 (by decide) ?_
        refine lv_icmp_ne (tgt := 171) hx hb dX7_addStep_164 (by decide) (fun q_ => absurd q_ (fun z_ => z_ c_23)) (fun _ => ?_)
        refine lv_iconst (v := 1) hx hb dX7_addStep_167 (by decide) ?_
        refine lv_goto (tgt := 172) hx hb dX7_addStep_168 (by decide) ?_
        obtain ⟨I16_, hI16_⟩ : ∃ z, z = up I15_ [22, 2, p] k 1 := ⟨_, rfl⟩
        refine x_bast hx hb hK hH hS (id := [22, 2, p]) (by first | trivial | (simp only [xD]; omega) | (simp [xD]; done) | (simp [xD]; omega)) (L := 8) rfl k rfl (by omega) (by decide) (by rfl) hI16_.symm dX7_addStep_172 (fun H locs hH hS => ?_)
        refine lv_aload_n hx hb dX7_addStep_173 rfl (lv_at hl 3 rfl) ?_
        refine x_get (C := RX7) (T := TX7) (N := 24) (ci := 7) hx hb hts iu7 hown hK hH (id := [20]) (by first | trivial | (simp only [xD]; omega) | (simp [xD]; done) | (simp [xD]; omega)) rfl rfl (by decide) 3 (by decide) (hts _ tw842) (fun _ h9 => h9) rfl (v := .ref (ga g [21, 3])) rfl dX7_addStep_174 ?_
        refine lv_iload_n hx hb dX7_addStep_177 rfl (lv_at hl 4 rfl) ?_
        refine x_aald hx hb hK hH (id := [21, 3]) (by first | trivial | (simp only [xD]; omega) | (simp [xD]; done) | (simp [xD]; omega)) 7 (L := 3) rfl (by decide) p rfl (by omega) (by decide) (v := .ref (ga g [22, 3, p])) (by show rq _ (if _ then _ else _) = _; rw [if_pos (show p < xLn 3 by show _ < 3; omega)]; rfl) dX7_addStep_178 ?_
        refine lv_iload hx hb dX7_addStep_179 (lv_at hl 0 rfl) ?_
        refine lv_bipush (v := 10) hx hb dX7_addStep_181 (by decide) ?_
        obtain ⟨I17_, hI17_⟩ : ∃ z, z = up I16_ [22, 3, p] k 10 := ⟨_, rfl⟩
        refine x_iast hx hb hK hH hS (id := [22, 3, p]) (by first | trivial | (simp only [xD]; omega) | (simp [xD]; done) | (simp [xD]; omega)) (L := 8) rfl k rfl (by omega) (by decide) hI17_.symm dX7_addStep_183 (fun H locs hH hS => ?_)
        refine lv_aload_n hx hb dX7_addStep_184 rfl (lv_at hl 3 rfl) ?_
        refine x_get (C := RX7) (T := TX7) (N := 24) (ci := 7) hx hb hts iu7 hown hK hH (id := [20]) (by first | trivial | (simp only [xD]; omega) | (simp [xD]; done) | (simp [xD]; omega)) rfl rfl (by decide) 8 (by decide) (hts _ tw847) (fun _ h9 => h9) rfl (v := .ref (ga g [24, 8])) rfl dX7_addStep_185 ?_
        refine lv_iload_n hx hb dX7_addStep_188 rfl (lv_at hl 4 rfl) ?_
        refine lv_dup2_11 hx hb dX7_addStep_189 rfl rfl ?_
        refine x_iald hx hb hK hH (id := [24, 8]) (by first | trivial | (simp only [xD]; omega) | (simp [xD]; done) | (simp [xD]; omega)) (L := 3) rfl rfl p rfl (by omega) (by decide) dX7_addStep_190 ?_
        rw [show (I17_ [24, 8] p) = (nI k) from (by first | (rw [hI17_, hI16_, hI15_, hI14_, hI13_]; simp [up]; done) | (rw [hI17_, hI16_, hI15_, hI14_, hI13_]; simp [up]; exact hs) | (rw [hI17_, hI16_, hI15_, hI14_, hI13_]; simp [up, hs]; done))]
        refine lv_iconst (v := 1) hx hb dX7_addStep_191 (by decide) ?_
        refine lv_iadd hx hb dX7_addStep_192 ?_
        rw [show ((nI k) + 1) = (nI (k + 1)) from (nI_1 k)]
        obtain ⟨I18_, hI18_⟩ : ∃ z, z = up I17_ [24, 8] p (nI (k + 1)) := ⟨_, rfl⟩
        refine x_iast hx hb hK hH hS (id := [24, 8]) (by first | trivial | (simp only [xD]; omega) | (simp [xD]; done) | (simp [xD]; omega)) (L := 3) rfl p rfl (by omega) (by decide) hI18_.symm dX7_addStep_193 (fun H locs hH hS => ?_)
        refine lv_iload hx hb dX7_addStep_194 (lv_at hl 0 rfl) ?_
        exact x_iret hx hb hr hlocks hS dX7_addStep_196 rfl (by rw [hI18_, hI17_, hI16_, hI15_, hI14_, hI13_] at hH; unfold mStp; rw [show b01 (decide (kd = 116)) = 1 from (b01_t (decide_eq_true c_23)).symm]; exact hH)
      · skip
        subst hy
        refine lv_iload_n hx hb dX7_addStep_39 rfl (lv_at hl 4 rfl) ?_
        refine lv_iconst (v := (-1)) hx hb dX7_addStep_40 (by decide) ?_
        refine lv_icmp_eq (tgt := 66) hx hb dX7_addStep_41 (by decide) (fun q_ => absurd q_ (nI_m1 (by omega))) (fun _ => ?_)
        refine lv_aload_n hx hb dX7_addStep_44 rfl (lv_at hl 1 rfl) ?_
        refine lv_iload_n hx hb dX7_addStep_45 rfl (lv_at hl 2 rfl) ?_
        refine lv_iload_n hx hb dX7_addStep_46 rfl (lv_at hl 4 rfl) ?_
        refine x_V1 hx hb hml hown hE hS hl.1 cyX7_isStep tw936 (c_X7_isStep_1 l g h I n q hq hz p hp k hk hs ((nI j))) ⟨Nat.le_of_ble_eq_true rfl, Nat.le_of_ble_eq_true rfl⟩ ⟨Nat.le_of_ble_eq_true rfl, Nat.le_of_ble_eq_true rfl⟩ (x_recv hK hH (id := [20]) (by first | trivial | (simp only [xD]; omega) | (simp [xD]; done) | (simp [xD]; omega)) (ci := 7) rfl (by decide) rfl) hH rfl rfl (Nat.le_of_ble_eq_true rfl) dX7_addStep_47 (fun H locs hH hS => ?_)
        refine lv_if_eq (tgt := 70) hx hb dX7_addStep_50 (by decide) (fun q_ => absurd q_ (fun z_ => by rw [sIn_nI hj (by omega)] at z_; exact absurd z_ (by decide))) (fun _ => ?_)
        refine lv_aload_n hx hb dX7_addStep_53 rfl (lv_at hl 1 rfl) ?_
        refine x_get (C := RX7) (T := TX7) (N := 24) (ci := 7) hx hb hts iu7 hown hK hH (id := [20]) (by first | trivial | (simp only [xD]; omega) | (simp [xD]; done) | (simp [xD]; omega)) rfl rfl (by decide) 0 (by decide) (hts _ tw839) (fun _ h9 => h9) rfl (v := .ref (ga g [21, 0])) rfl dX7_addStep_54 ?_
        refine lv_iload_n hx hb dX7_addStep_57 rfl (lv_at hl 2 rfl) ?_
        refine x_aald hx hb hK hH (id := [21, 0]) (by first | trivial | (simp only [xD]; omega) | (simp [xD]; done) | (simp [xD]; omega)) 8 (L := 3) rfl (by decide) p rfl (by omega) (by decide) (v := .ref (ga g [22, 0, p])) (by show rq _ (if _ then _ else _) = _; rw [if_pos (show p < xLn 0 by show _ < 3; omega)]; rfl) dX7_addStep_58 ?_
        refine lv_iload_n hx hb dX7_addStep_59 rfl (lv_at hl 4 rfl) ?_
        refine x_cald hx hb hK hH (id := [22, 0, p]) (by first | trivial | (simp only [xD]; omega) | (simp [xD]; done) | (simp [xD]; omega)) (L := 8) rfl rfl j rfl (by omega) (by decide) dX7_addStep_60 ?_
        refine lv_bipush (v := 115) hx hb dX7_addStep_61 (by decide) ?_
        refine lv_icmp_ne (tgt := 70) hx hb dX7_addStep_63 (by decide) (fun q_ => absurd q_ (fun z_ => z_ hy2)) (fun _ => ?_)
        refine lv_iconst (v := 1) hx hb dX7_addStep_66 (by decide) ?_
        refine lv_goto (tgt := 71) hx hb dX7_addStep_67 (by decide) ?_
        refine lv_istore (lv' := [(5, .int 1), (4, .int 1), (0, .ref (ga g [20])), (1, .int (nI p)), (2, .int kd), (3, .int (nI j))]) hx hb dX7_addStep_71 hl (by decide) rfl (fun ls hl => ?_)
        refine lv_aload_n hx hb dX7_addStep_73 rfl (lv_at hl 2 rfl) ?_
        refine lv_iload hx hb dX7_addStep_74 (lv_at hl 1 rfl) ?_
        refine lv_if_eq (tgt := 84) hx hb dX7_addStep_76 (by decide) (fun q_ => absurd q_ (by decide)) (fun _ => ?_)
        refine lv_iload hx hb dX7_addStep_79 (lv_at hl 0 rfl) ?_
        refine lv_if_ne (tgt := 88) hx hb dX7_addStep_81 (by decide) (fun _ => ?_) (fun q_ => absurd q_ (by decide))
        refine lv_aload_n hx hb dX7_addStep_88 rfl (lv_at hl 2 rfl) ?_
        refine x_get (C := RX7) (T := TX7) (N := 24) (ci := 7) hx hb hts iu7 hown hK hH (id := [20]) (by first | trivial | (simp only [xD]; omega) | (simp [xD]; done) | (simp [xD]; omega)) rfl rfl (by decide) 9 (by decide) (hts _ tw848) (fun _ h9 => h9) rfl (v := .ref (ga g [24, 9])) rfl dX7_addStep_89 ?_
        refine lv_iload_n hx hb dX7_addStep_92 rfl (lv_at hl 3 rfl) ?_
        refine x_bald hx hb hK hH (id := [24, 9]) (by first | trivial | (simp only [xD]; omega) | (simp [xD]; done) | (simp [xD]; omega)) (L := 3) rfl rfl p rfl (by omega) (by decide) dX7_addStep_93 ?_
        refine lv_if_ne (tgt := 108) hx hb dX7_addStep_94 (by decide) (fun q_ => absurd q_ (fun z_ => z_ hu)) (fun _ => ?_)
        refine lv_aload_n hx hb dX7_addStep_97 rfl (lv_at hl 2 rfl) ?_
        refine x_get (C := RX7) (T := TX7) (N := 24) (ci := 7) hx hb hts iu7 hown hK hH (id := [20]) (by first | trivial | (simp only [xD]; omega) | (simp [xD]; done) | (simp [xD]; omega)) rfl rfl (by decide) 8 (by decide) (hts _ tw847) (fun _ h9 => h9) rfl (v := .ref (ga g [24, 8])) rfl dX7_addStep_98 ?_
        refine lv_iload_n hx hb dX7_addStep_101 rfl (lv_at hl 3 rfl) ?_
        refine x_iald hx hb hK hH (id := [24, 8]) (by first | trivial | (simp only [xD]; omega) | (simp [xD]; done) | (simp [xD]; omega)) (L := 3) rfl rfl p rfl (by omega) (by decide) dX7_addStep_102 ?_
        rw [show (I [24, 8] p) = (nI k) from (hs)]
        refine lv_bipush (v := 8) hx hb dX7_addStep_103 (by decide) ?_
        refine lv_icmp_ne (tgt := 112) hx hb dX7_addStep_105 (by decide) (fun _ => ?_) (fun q_ => absurd q_ (fun z_ => absurd ((nI_eq (a := k) (b := 8) (by omega) (by omega)).mp z_) (by omega)))
        refine lv_iconst (v := 0) hx hb dX7_addStep_112 (by decide) ?_
        obtain ⟨I19_, hI19_⟩ : ∃ z, z = up I [20] 23 0 := ⟨_, rfl⟩
        refine x_put (C := RX7) (T := TX7) (N := 24) (ci := 7) hx hb hts iu7 tyX7 tyX7_ok nmX7 hown hK hH hS (id := [20]) (by first | trivial | (simp only [xD]; omega) | (simp [xD]; done) | (simp [xD]; omega)) rfl rfl (by decide) 23 (by decide) (hts _ tw862) (fun _ h9 => h9) (Or.inl rfl) (ty := .int) (v := .int 0) (by decide +kernel) rfl rfl (I' := I19_) (F' := (xFh h)) (fun i hi => by rw [hI19_]; exact up_id hi) (fun _ _ => rfl) (fun j9 => by rw [hI19_, up_row]; exact xv_upd (ci := 7) (k := 23) rfl j9) dX7_addStep_113 (fun H locs hH hS => ?_)
        refine lv_aload_n hx hb dX7_addStep_116 rfl (lv_at hl 2 rfl) ?_
        refine x_get (C := RX7) (T := TX7) (N := 24) (ci := 7) hx hb hts iu7 hown hK hH (id := [20]) (by first | trivial | (simp only [xD]; omega) | (simp [xD]; done) | (simp [xD]; omega)) rfl rfl (by decide) 23 (by decide) (hts _ tw862) (fun _ h9 => h9) rfl (v := .int 0) (congrArg Value.int (by rw [hI19_]; exact up_at)) dX7_addStep_117 ?_
        refine lv_if_le (tgt := 125) hx hb dX7_addStep_120 (by decide) (fun _ => ?_) (fun q_ => absurd (by decide) q_)
        refine lv_aload_n hx hb dX7_addStep_125 rfl (lv_at hl 2 rfl) ?_
        refine x_get (C := RX7) (T := TX7) (N := 24) (ci := 7) hx hb hts iu7 hown hK hH (id := [20]) (by first | trivial | (simp only [xD]; omega) | (simp [xD]; done) | (simp [xD]; omega)) rfl rfl (by decide) 8 (by decide) (hts _ tw847) (fun _ h9 => h9) rfl (v := .ref (ga g [24, 8])) rfl dX7_addStep_126 ?_
        refine lv_iload_n hx hb dX7_addStep_129 rfl (lv_at hl 3 rfl) ?_
        refine x_iald hx hb hK hH (id := [24, 8]) (by first | trivial | (simp only [xD]; omega) | (simp [xD]; done) | (simp [xD]; omega)) (L := 3) rfl rfl p rfl (by omega) (by decide) dX7_addStep_130 ?_
        rw [show (I19_ [24, 8] p) = (nI k) from (by first | (rw [hI19_]; simp [up]; done) | (rw [hI19_]; simp [up]; exact hs) | (rw [hI19_]; simp [up, hs]; done))]
        refine lv_istore (lv' := [(6, .int (nI k)), (5, .int 1), (4, .int 1), (0, .ref (ga g [20])), (1, .int (nI p)), (2, .int kd), (3, .int (nI j))]) hx hb dX7_addStep_131 hl (by decide) rfl (fun ls hl => ?_)
        refine lv_aload_n hx hb dX7_addStep_133 rfl (lv_at hl 3 rfl) ?_
        refine x_get (C := RX7) (T := TX7) (N := 24) (ci := 7) hx hb hts iu7 hown hK hH (id := [20]) (by first | trivial | (simp only [xD]; omega) | (simp [xD]; done) | (simp [xD]; omega)) rfl rfl (by decide) 0 (by decide) (hts _ tw839) (fun _ h9 => h9) rfl (v := .ref (ga g [21, 0])) rfl dX7_addStep_134 ?_
        refine lv_iload_n hx hb dX7_addStep_137 rfl (lv_at hl 4 rfl) ?_
        refine x_aald hx hb hK hH (id := [21, 0]) (by first | trivial | (simp only [xD]; omega) | (simp [xD]; done) | (simp [xD]; omega)) 8 (L := 3) rfl (by decide) p rfl (by omega) (by decide) (v := .ref (ga g [22, 0, p])) (by show rq _ (if _ then _ else _) = _; rw [if_pos (show p < xLn 0 by show _ < 3; omega)]; rfl) dX7_addStep_138 ?_
        refine lv_iload hx hb dX7_addStep_139 (lv_at hl 0 rfl) ?_
        refine lv_iload_n hx hb dX7_addStep_141 rfl (lv_at hl 5 rfl) ?_
        obtain ⟨I20_, hI20_⟩ : ∃ z, z = up I19_ [22, 0, p] k kd := ⟨_, rfl⟩
        refine x_cast hx hb hK hH hS (id := [22, 0, p]) (by first | trivial | (simp only [xD]; omega) | (simp [xD]; done) | (simp [xD]; omega)) (L := 8) rfl k rfl (by omega) (by decide) hsc hI20_.symm dX7_addStep_142 (fun H locs hH hS => ?_)
        refine lv_aload_n hx hb dX7_addStep_143 rfl (lv_at hl 3 rfl) ?_
        refine x_get (C := RX7) (T := TX7) (N := 24) (ci := 7) hx hb hts iu7 hown hK hH (id := [20]) (by first | trivial | (simp only [xD]; omega) | (simp [xD]; done) | (simp [xD]; omega)) rfl rfl (by decide) 1 (by decide) (hts _ tw840) (fun _ h9 => h9) rfl (v := .ref (ga g [21, 1])) rfl dX7_addStep_144 ?_
        refine lv_iload_n hx hb dX7_addStep_147 rfl (lv_at hl 4 rfl) ?_
        refine x_aald hx hb hK hH (id := [21, 1]) (by first | trivial | (simp only [xD]; omega) | (simp [xD]; done) | (simp [xD]; omega)) 7 (L := 3) rfl (by decide) p rfl (by omega) (by decide) (v := .ref (ga g [22, 1, p])) (by show rq _ (if _ then _ else _) = _; rw [if_pos (show p < xLn 1 by show _ < 3; omega)]; rfl) dX7_addStep_148 ?_
        refine lv_iload hx hb dX7_addStep_149 (lv_at hl 0 rfl) ?_
        refine lv_iload_n hx hb dX7_addStep_151 rfl (lv_at hl 6 rfl) ?_
        obtain ⟨I21_, hI21_⟩ : ∃ z, z = up I20_ [22, 1, p] k (nI j) := ⟨_, rfl⟩
        refine x_iast hx hb hK hH hS (id := [22, 1, p]) (by first | trivial | (simp only [xD]; omega) | (simp [xD]; done) | (simp [xD]; omega)) (L := 8) rfl k rfl (by omega) (by decide) hI21_.symm dX7_addStep_152 (fun H locs hH hS => ?_)
        refine lv_aload_n hx hb dX7_addStep_153 rfl (lv_at hl 3 rfl) ?_
        refine x_get (C := RX7) (T := TX7) (N := 24) (ci := 7) hx hb hts iu7 hown hK hH (id := [20]) (by first | trivial | (simp only [xD]; omega) | (simp [xD]; done) | (simp [xD]; omega)) rfl rfl (by decide) 2 (by decide) (hts _ tw841) (fun _ h9 => h9) rfl (v := .ref (ga g [21, 2])) rfl dX7_addStep_154 ?_
        refine lv_iload_n hx hb dX7_addStep_157 rfl (lv_at hl 4 rfl) ?_
        refine x_aald hx hb hK hH (id := [21, 2]) (by first | trivial | (simp only [xD]; omega) | (simp [xD]; done) | (simp [xD]; omega)) 9 (L := 3) rfl (by decide) p rfl (by omega) (by decide) (v := .ref (ga g [22, 2, p])) (by show rq _ (if _ then _ else _) = _; rw [if_pos (show p < xLn 2 by show _ < 3; omega)]; rfl) dX7_addStep_158 ?_
        refine lv_iload hx hb dX7_addStep_159 (lv_at hl 0 rfl) ?_
        refine lv_iload_n hx hb dX7_addStep_161 rfl (lv_at hl 5 rfl) ?_
        refine lv_bipush (v := 116) hx hb dX7_addStep_162 (by decide) ?_
        refine lv_icmp_ne (tgt := 171) hx hb dX7_addStep_164 (by decide) (fun q_ => absurd q_ (fun z_ => z_ c_23)) (fun _ => ?_)
        refine lv_iconst (v := 1) hx hb dX7_addStep_167 (by decide) ?_
        refine lv_goto (tgt := 172) hx hb dX7_addStep_168 (by decide) ?_
        obtain ⟨I22_, hI22_⟩ : ∃ z, z = up I21_ [22, 2, p] k 1 := ⟨_, rfl⟩
        refine x_bast hx hb hK hH hS (id := [22, 2, p]) (by first | trivial | (simp only [xD]; omega) | (simp [xD]; done) | (simp [xD]; omega)) (L := 8) rfl k rfl (by omega) (by decide) (by rfl) hI22_.symm dX7_addStep_172 (fun H locs hH hS => ?_)
        refine lv_aload_n hx hb dX7_addStep_173 rfl (lv_at hl 3 rfl) ?_
        refine x_get (C := RX7) (T := TX7) (N := 24) (ci := 7) hx hb hts iu7 hown hK hH (id := [20]) (by first | trivial | (simp only [xD]; omega) | (simp [xD]; done) | (simp [xD]; omega)) rfl rfl (by decide) 3 (by decide) (hts _ tw842) (fun _ h9 => h9) rfl (v := .ref (ga g [21, 3])) rfl dX7_addStep_174 ?_
        refine lv_iload_n hx hb dX7_addStep_177 rfl (lv_at hl 4 rfl) ?_
        refine x_aald hx hb hK hH (id := [21, 3]) (by first | trivial | (simp only [xD]; omega) | (simp [xD]; done) | (simp [xD]; omega)) 7 (L := 3) rfl (by decide) p rfl (by omega) (by decide) (v := .ref (ga g [22, 3, p])) (by show rq _ (if _ then _ else _) = _; rw [if_pos (show p < xLn 3 by show _ < 3; omega)]; rfl) dX7_addStep_178 ?_
        refine lv_iload hx hb dX7_addStep_179 (lv_at hl 0 rfl) ?_
        refine lv_bipush (v := 10) hx hb dX7_addStep_181 (by decide) ?_
        obtain ⟨I23_, hI23_⟩ : ∃ z, z = up I22_ [22, 3, p] k 10 := ⟨_, rfl⟩
        refine x_iast hx hb hK hH hS (id := [22, 3, p]) (by first | trivial | (simp only [xD]; omega) | (simp [xD]; done) | (simp [xD]; omega)) (L := 8) rfl k rfl (by omega) (by decide) hI23_.symm dX7_addStep_183 (fun H locs hH hS => ?_)
        refine lv_aload_n hx hb dX7_addStep_184 rfl (lv_at hl 3 rfl) ?_
        refine x_get (C := RX7) (T := TX7) (N := 24) (ci := 7) hx hb hts iu7 hown hK hH (id := [20]) (by first | trivial | (simp only [xD]; omega) | (simp [xD]; done) | (simp [xD]; omega)) rfl rfl (by decide) 8 (by decide) (hts _ tw847) (fun _ h9 => h9) rfl (v := .ref (ga g [24, 8])) rfl dX7_addStep_185 ?_
        refine lv_iload_n hx hb dX7_addStep_188 rfl (lv_at hl 4 rfl) ?_
        refine lv_dup2_11 hx hb dX7_addStep_189 rfl rfl ?_
        refine x_iald hx hb hK hH (id := [24, 8]) (by first | trivial | (simp only [xD]; omega) | (simp [xD]; done) | (simp [xD]; omega)) (L := 3) rfl rfl p rfl (by omega) (by decide) dX7_addStep_190 ?_
        rw [show (I23_ [24, 8] p) = (nI k) from (by first | (rw [hI23_, hI22_, hI21_, hI20_, hI19_]; simp [up]; done) | (rw [hI23_, hI22_, hI21_, hI20_, hI19_]; simp [up]; exact hs) | (rw [hI23_, hI22_, hI21_, hI20_, hI19_]; simp [up, hs]; done))]
        refine lv_iconst (v := 1) hx hb dX7_addStep_191 (by decide) ?_
        refine lv_iadd hx hb dX7_addStep_192 ?_
        rw [show ((nI k) + 1) = (nI (k + 1)) from (nI_1 k)]
        obtain ⟨I24_, hI24_⟩ : ∃ z, z = up I23_ [24, 8] p (nI (k + 1)) := ⟨_, rfl⟩
        refine x_iast hx hb hK hH hS (id := [24, 8]) (by first | trivial | (simp only [xD]; omega) | (simp [xD]; done) | (simp [xD]; omega)) (L := 3) rfl p rfl (by omega) (by decide) hI24_.symm dX7_addStep_193 (fun H locs hH hS => ?_)
        refine lv_iload hx hb dX7_addStep_194 (lv_at hl 0 rfl) ?_
        exact x_iret hx hb hr hlocks hS dX7_addStep_196 rfl (by rw [hI24_, hI23_, hI22_, hI21_, hI20_, hI19_] at hH; unfold mStp; rw [show b01 (decide (kd = 116)) = 1 from (b01_t (decide_eq_true c_23)).symm]; exact hH)
    · skip
      refine lv_iload_n hx hb dX7_addStep_26 rfl (lv_at hl 2 rfl) ?_
      refine lv_bipush (v := 109) hx hb dX7_addStep_27 (by decide) ?_
      refine lv_icmp_ne (tgt := 36) hx hb dX7_addStep_29 (by decide) (fun q_ => absurd q_ (fun z_ => z_ ((hkd.resolve_left c_17).resolve_left c_23))) (fun _ => ?_)
      refine lv_iconst (v := 1) hx hb dX7_addStep_32 (by decide) ?_
      refine lv_goto (tgt := 37) hx hb dX7_addStep_33 (by decide) ?_
      refine lv_istore (lv' := [(4, .int 1), (0, .ref (ga g [20])), (1, .int (nI p)), (2, .int kd), (3, .int y)]) hx hb dX7_addStep_37 hl (by decide) rfl (fun ls hl => ?_)
      rcases hpa with hy | ⟨j, hj, hy, hy2⟩
      · skip
        refine lv_iload_n hx hb dX7_addStep_39 rfl (lv_at hl 4 rfl) ?_
        refine lv_iconst (v := (-1)) hx hb dX7_addStep_40 (by decide) ?_
        refine lv_icmp_eq (tgt := 66) hx hb dX7_addStep_41 (by decide) (fun _ => ?_) (fun q_ => absurd hy q_)
        refine lv_iconst (v := 1) hx hb dX7_addStep_66 (by decide) ?_
        refine lv_goto (tgt := 71) hx hb dX7_addStep_67 (by decide) ?_
        refine lv_istore (lv' := [(5, .int 1), (4, .int 1), (0, .ref (ga g [20])), (1, .int (nI p)), (2, .int kd), (3, .int y)]) hx hb dX7_addStep_71 hl (by decide) rfl (fun ls hl => ?_)
        refine lv_aload_n hx hb dX7_addStep_73 rfl (lv_at hl 2 rfl) ?_
        refine lv_iload hx hb dX7_addStep_74 (lv_at hl 1 rfl) ?_
        refine lv_if_eq (tgt := 84) hx hb dX7_addStep_76 (by decide) (fun q_ => absurd q_ (by decide)) (fun _ => ?_)
        refine lv_iload hx hb dX7_addStep_79 (lv_at hl 0 rfl) ?_
        refine lv_if_ne (tgt := 88) hx hb dX7_addStep_81 (by decide) (fun _ => ?_) (fun q_ => absurd q_ (by decide))
        refine lv_aload_n hx hb dX7_addStep_88 rfl (lv_at hl 2 rfl) ?_
        refine x_get (C := RX7) (T := TX7) (N := 24) (ci := 7) hx hb hts iu7 hown hK hH (id := [20]) (by first | trivial | (simp only [xD]; omega) | (simp [xD]; done) | (simp [xD]; omega)) rfl rfl (by decide) 9 (by decide) (hts _ tw848) (fun _ h9 => h9) rfl (v := .ref (ga g [24, 9])) rfl dX7_addStep_89 ?_
        refine lv_iload_n hx hb dX7_addStep_92 rfl (lv_at hl 3 rfl) ?_
        refine x_bald hx hb hK hH (id := [24, 9]) (by first | trivial | (simp only [xD]; omega) | (simp [xD]; done) | (simp [xD]; omega)) (L := 3) rfl rfl p rfl (by omega) (by decide) dX7_addStep_93 ?_
        refine lv_if_ne (tgt := 108) hx hb dX7_addStep_94 (by decide) (fun q_ => absurd q_ (fun z_ => z_ hu)) (fun _ => ?_)
        refine lv_aload_n hx hb dX7_addStep_97 rfl (lv_at hl 2 rfl) ?_
        refine x_get (C := RX7) (T := TX7) (N := 24) (ci := 7) hx hb hts iu7 hown hK hH (id := [20]) (by first | trivial | (simp only [xD]; omega) | (simp [xD]; done) | (simp [xD]; omega)) rfl rfl (by decide) 8 (by decide) (hts _ tw847) (fun _ h9 => h9) rfl (v := .ref (ga g [24, 8])) rfl dX7_addStep_98 ?_
        refine lv_iload_n hx hb dX7_addStep_101 rfl (lv_at hl 3 rfl) ?_
        refine x_iald hx hb hK hH (id := [24, 8]) (by first | trivial | (simp only [xD]; omega) | (simp [xD]; done) | (simp [xD]; omega)) (L := 3) rfl rfl p rfl (by omega) (by decide) dX7_addStep_102 ?_
        rw [show (I [24, 8] p) = (nI k) from (hs)]
        refine lv_bipush (v := 8) hx hb dX7_addStep_103 (by decide) ?_
        refine lv_icmp_ne (tgt := 112) hx hb dX7_addStep_105 (by decide) (fun _ => ?_) (fun q_ => absurd q_ (fun z_ => absurd ((nI_eq (a := k) (b := 8) (by omega) (by omega)).mp z_) (by omega)))
        refine lv_iconst (v := 0) hx hb dX7_addStep_112 (by decide) ?_
        obtain ⟨I25_, hI25_⟩ : ∃ z, z = up I [20] 23 0 := ⟨_, rfl⟩
        refine x_put (C := RX7) (T := TX7) (N := 24) (ci := 7) hx hb hts iu7 tyX7 tyX7_ok nmX7 hown hK hH hS (id := [20]) (by first | trivial | (simp only [xD]; omega) | (simp [xD]; done) | (simp [xD]; omega)) rfl rfl (by decide) 23 (by decide) (hts _ tw862) (fun _ h9 => h9) (Or.inl rfl) (ty := .int) (v := .int 0) (by decide +kernel) rfl rfl (I' := I25_) (F' := (xFh h)) (fun i hi => by rw [hI25_]; exact up_id hi) (fun _ _ => rfl) (fun j9 => by rw [hI25_, up_row]; exact xv_upd (ci := 7) (k := 23) rfl j9) dX7_addStep_113 (fun H locs hH hS => ?_)
        refine lv_aload_n hx hb dX7_addStep_116 rfl (lv_at hl 2 rfl) ?_
        refine x_get (C := RX7) (T := TX7) (N := 24) (ci := 7) hx hb hts iu7 hown hK hH (id := [20]) (by first | trivial | (simp only [xD]; omega) | (simp [xD]; done) | (simp [xD]; omega)) rfl rfl (by decide) 23 (by decide) (hts _ tw862) (fun _ h9 => h9) rfl (v := .int 0) (congrArg Value.int (by rw [hI25_]; exact up_at)) dX7_addStep_117 ?_
        refine lv_if_le (tgt := 125) hx hb dX7_addStep_120 (by decide) (fun _ => ?_) (fun q_ => absurd (by decide) q_)
        refine lv_aload_n hx hb dX7_addStep_125 rfl (lv_at hl 2 rfl) ?_
        refine x_get (C := RX7) (T := TX7) (N := 24) (ci := 7) hx hb hts iu7 hown hK hH (id := [20]) (by first | trivial | (simp only [xD]; omega) | (simp [xD]; done) | (simp [xD]; omega)) rfl rfl (by decide) 8 (by decide) (hts _ tw847) (fun _ h9 => h9) rfl (v := .ref (ga g [24, 8])) rfl dX7_addStep_126 ?_
        refine lv_iload_n hx hb dX7_addStep_129 rfl (lv_at hl 3 rfl) ?_
        refine x_iald hx hb hK hH (id := [24, 8]) (by first | trivial | (simp only [xD]; omega) | (simp [xD]; done) | (simp [xD]; omega)) (L := 3) rfl rfl p rfl (by omega) (by decide) dX7_addStep_130 ?_
        rw [show (I25_ [24, 8] p) = (nI k) from (by first | (rw [hI25_]; simp [up]; done) | (rw [hI25_]; simp [up]; exact hs) | (rw [hI25_]; simp [up, hs]; done))]
        refine lv_istore (lv' := [(6, .int (nI k)), (5, .int 1), (4, .int 1), (0, .ref (ga g [20])), (1, .int (nI p)), (2, .int kd), (3, .int y)]) hx hb dX7_addStep_131 hl (by decide) rfl (fun ls hl => ?_)
        refine lv_aload_n hx hb dX7_addStep_133 rfl (lv_at hl 3 rfl) ?_
        refine x_get (C := RX7) (T := TX7) (N := 24) (ci := 7) hx hb hts iu7 hown hK hH (id := [20]) (by first | trivial | (simp only [xD]; omega) | (simp [xD]; done) | (simp [xD]; omega)) rfl rfl (by decide) 0 (by decide) (hts _ tw839) (fun _ h9 => h9) rfl (v := .ref (ga g [21, 0])) rfl dX7_addStep_134 ?_
        refine lv_iload_n hx hb dX7_addStep_137 rfl (lv_at hl 4 rfl) ?_
        refine x_aald hx hb hK hH (id := [21, 0]) (by first | trivial | (simp only [xD]; omega) | (simp [xD]; done) | (simp [xD]; omega)) 8 (L := 3) rfl (by decide) p rfl (by omega) (by decide) (v := .ref (ga g [22, 0, p])) (by show rq _ (if _ then _ else _) = _; rw [if_pos (show p < xLn 0 by show _ < 3; omega)]; rfl) dX7_addStep_138 ?_
        refine lv_iload hx hb dX7_addStep_139 (lv_at hl 0 rfl) ?_
        refine lv_iload_n hx hb dX7_addStep_141 rfl (lv_at hl 5 rfl) ?_
        obtain ⟨I26_, hI26_⟩ : ∃ z, z = up I25_ [22, 0, p] k kd := ⟨_, rfl⟩
        refine x_cast hx hb hK hH hS (id := [22, 0, p]) (by first | trivial | (simp only [xD]; omega) | (simp [xD]; done) | (simp [xD]; omega)) (L := 8) rfl k rfl (by omega) (by decide) hsc hI26_.symm dX7_addStep_142 (fun H locs hH hS => ?_)
        refine lv_aload_n hx hb dX7_addStep_143 rfl (lv_at hl 3 rfl) ?_
        refine x_get (C := RX7) (T := TX7) (N := 24) (ci := 7) hx hb hts iu7 hown hK hH (id := [20]) (by first | trivial | (simp only [xD]; omega) | (simp [xD]; done) | (simp [xD]; omega)) rfl rfl (by decide) 1 (by decide) (hts _ tw840) (fun _ h9 => h9) rfl (v := .ref (ga g [21, 1])) rfl dX7_addStep_144 ?_
        refine lv_iload_n hx hb dX7_addStep_147 rfl (lv_at hl 4 rfl) ?_
        refine x_aald hx hb hK hH (id := [21, 1]) (by first | trivial | (simp only [xD]; omega) | (simp [xD]; done) | (simp [xD]; omega)) 7 (L := 3) rfl (by decide) p rfl (by omega) (by decide) (v := .ref (ga g [22, 1, p])) (by show rq _ (if _ then _ else _) = _; rw [if_pos (show p < xLn 1 by show _ < 3; omega)]; rfl) dX7_addStep_148 ?_
        refine lv_iload hx hb dX7_addStep_149 (lv_at hl 0 rfl) ?_
        refine lv_iload_n hx hb dX7_addStep_151 rfl (lv_at hl 6 rfl) ?_
        obtain ⟨I27_, hI27_⟩ : ∃ z, z = up I26_ [22, 1, p] k y := ⟨_, rfl⟩
        refine x_iast hx hb hK hH hS (id := [22, 1, p]) (by first | trivial | (simp only [xD]; omega) | (simp [xD]; done) | (simp [xD]; omega)) (L := 8) rfl k rfl (by omega) (by decide) hI27_.symm dX7_addStep_152 (fun H locs hH hS => ?_)
        refine lv_aload_n hx hb dX7_addStep_153 rfl (lv_at hl 3 rfl) ?_
        refine x_get (C := RX7) (T := TX7) (N := 24) (ci := 7) hx hb hts iu7 hown hK hH (id := [20]) (by first | trivial | (simp only [xD]; omega) | (simp [xD]; done) | (simp [xD]; omega)) rfl rfl (by decide) 2 (by decide) (hts _ tw841) (fun _ h9 => h9) rfl (v := .ref (ga g [21, 2])) rfl dX7_addStep_154 ?_
        refine lv_iload_n hx hb dX7_addStep_157 rfl (lv_at hl 4 rfl) ?_
        refine x_aald hx hb hK hH (id := [21, 2]) (by first | trivial | (simp only [xD]; omega) | (simp [xD]; done) | (simp [xD]; omega)) 9 (L := 3) rfl (by decide) p rfl (by omega) (by decide) (v := .ref (ga g [22, 2, p])) (by show rq _ (if _ then _ else _) = _; rw [if_pos (show p < xLn 2 by show _ < 3; omega)]; rfl) dX7_addStep_158 ?_
        refine lv_iload hx hb dX7_addStep_159 (lv_at hl 0 rfl) ?_
        refine lv_iload_n hx hb dX7_addStep_161 rfl (lv_at hl 5 rfl) ?_
        refine lv_bipush (v := 116) hx hb dX7_addStep_162 (by decide) ?_
        refine lv_icmp_ne (tgt := 171) hx hb dX7_addStep_164 (by decide) (fun _ => ?_) (fun q_ => absurd q_ (fun z_ => c_23 z_))
        refine lv_iconst (v := 0) hx hb dX7_addStep_171 (by decide) ?_
        obtain ⟨I28_, hI28_⟩ : ∃ z, z = up I27_ [22, 2, p] k 0 := ⟨_, rfl⟩
        refine x_bast hx hb hK hH hS (id := [22, 2, p]) (by first | trivial | (simp only [xD]; omega) | (simp [xD]; done) | (simp [xD]; omega)) (L := 8) rfl k rfl (by omega) (by decide) (by rfl) hI28_.symm dX7_addStep_172 (fun H locs hH hS => ?_)
        refine lv_aload_n hx hb dX7_addStep_173 rfl (lv_at hl 3 rfl) ?_
        refine x_get (C := RX7) (T := TX7) (N := 24) (ci := 7) hx hb hts iu7 hown hK hH (id := [20]) (by first | trivial | (simp only [xD]; omega) | (simp [xD]; done) | (simp [xD]; omega)) rfl rfl (by decide) 3 (by decide) (hts _ tw842) (fun _ h9 => h9) rfl (v := .ref (ga g [21, 3])) rfl dX7_addStep_174 ?_
        refine lv_iload_n hx hb dX7_addStep_177 rfl (lv_at hl 4 rfl) ?_
        refine x_aald hx hb hK hH (id := [21, 3]) (by first | trivial | (simp only [xD]; omega) | (simp [xD]; done) | (simp [xD]; omega)) 7 (L := 3) rfl (by decide) p rfl (by omega) (by decide) (v := .ref (ga g [22, 3, p])) (by show rq _ (if _ then _ else _) = _; rw [if_pos (show p < xLn 3 by show _ < 3; omega)]; rfl) dX7_addStep_178 ?_
        refine lv_iload hx hb dX7_addStep_179 (lv_at hl 0 rfl) ?_
        refine lv_bipush (v := 10) hx hb dX7_addStep_181 (by decide) ?_
        obtain ⟨I29_, hI29_⟩ : ∃ z, z = up I28_ [22, 3, p] k 10 := ⟨_, rfl⟩
        refine x_iast hx hb hK hH hS (id := [22, 3, p]) (by first | trivial | (simp only [xD]; omega) | (simp [xD]; done) | (simp [xD]; omega)) (L := 8) rfl k rfl (by omega) (by decide) hI29_.symm dX7_addStep_183 (fun H locs hH hS => ?_)
        refine lv_aload_n hx hb dX7_addStep_184 rfl (lv_at hl 3 rfl) ?_
        refine x_get (C := RX7) (T := TX7) (N := 24) (ci := 7) hx hb hts iu7 hown hK hH (id := [20]) (by first | trivial | (simp only [xD]; omega) | (simp [xD]; done) | (simp [xD]; omega)) rfl rfl (by decide) 8 (by decide) (hts _ tw847) (fun _ h9 => h9) rfl (v := .ref (ga g [24, 8])) rfl dX7_addStep_185 ?_
        refine lv_iload_n hx hb dX7_addStep_188 rfl (lv_at hl 4 rfl) ?_
        refine lv_dup2_11 hx hb dX7_addStep_189 rfl rfl ?_
        refine x_iald hx hb hK hH (id := [24, 8]) (by first | trivial | (simp only [xD]; omega) | (simp [xD]; done) | (simp [xD]; omega)) (L := 3) rfl rfl p rfl (by omega) (by decide) dX7_addStep_190 ?_
        rw [show (I29_ [24, 8] p) = (nI k) from (by first | (rw [hI29_, hI28_, hI27_, hI26_, hI25_]; simp [up]; done) | (rw [hI29_, hI28_, hI27_, hI26_, hI25_]; simp [up]; exact hs) | (rw [hI29_, hI28_, hI27_, hI26_, hI25_]; simp [up, hs]; done))]
        refine lv_iconst (v := 1) hx hb dX7_addStep_191 (by decide) ?_
        refine lv_iadd hx hb dX7_addStep_192 ?_
        rw [show ((nI k) + 1) = (nI (k + 1)) from (nI_1 k)]
        obtain ⟨I30_, hI30_⟩ : ∃ z, z = up I29_ [24, 8] p (nI (k + 1)) := ⟨_, rfl⟩
        refine x_iast hx hb hK hH hS (id := [24, 8]) (by first | trivial | (simp only [xD]; omega) | (simp [xD]; done) | (simp [xD]; omega)) (L := 3) rfl p rfl (by omega) (by decide) hI30_.symm dX7_addStep_193 (fun H locs hH hS => ?_)
        refine lv_iload hx hb dX7_addStep_194 (lv_at hl 0 rfl) ?_
        exact x_iret hx hb hr hlocks hS dX7_addStep_196 rfl (by rw [hI30_, hI29_, hI28_, hI27_, hI26_, hI25_] at hH; unfold mStp; rw [show b01 (decide (kd = 116)) = 0 from (b01_f (decide_eq_false c_23)).symm]; exact hH)
      · skip
        subst hy
        refine lv_iload_n hx hb dX7_addStep_39 rfl (lv_at hl 4 rfl) ?_
        refine lv_iconst (v := (-1)) hx hb dX7_addStep_40 (by decide) ?_
        refine lv_icmp_eq (tgt := 66) hx hb dX7_addStep_41 (by decide) (fun q_ => absurd q_ (nI_m1 (by omega))) (fun _ => ?_)
        refine lv_aload_n hx hb dX7_addStep_44 rfl (lv_at hl 1 rfl) ?_
        refine lv_iload_n hx hb dX7_addStep_45 rfl (lv_at hl 2 rfl) ?_
        refine lv_iload_n hx hb dX7_addStep_46 rfl (lv_at hl 4 rfl) ?_
        refine x_V1 hx hb hml hown hE hS hl.1 cyX7_isStep tw936 (c_X7_isStep_1 l g h I n q hq hz p hp k hk hs ((nI j))) ⟨Nat.le_of_ble_eq_true rfl, Nat.le_of_ble_eq_true rfl⟩ ⟨Nat.le_of_ble_eq_true rfl, Nat.le_of_ble_eq_true rfl⟩ (x_recv hK hH (id := [20]) (by first | trivial | (simp only [xD]; omega) | (simp [xD]; done) | (simp [xD]; omega)) (ci := 7) rfl (by decide) rfl) hH rfl rfl (Nat.le_of_ble_eq_true rfl) dX7_addStep_47 (fun H locs hH hS => ?_)
        refine lv_if_eq (tgt := 70) hx hb dX7_addStep_50 (by decide) (fun q_ => absurd q_ (fun z_ => by rw [sIn_nI hj (by omega)] at z_; exact absurd z_ (by decide))) (fun _ => ?_)
        refine lv_aload_n hx hb dX7_addStep_53 rfl (lv_at hl 1 rfl) ?_
        refine x_get (C := RX7) (T := TX7) (N := 24) (ci := 7) hx hb hts iu7 hown hK hH (id := [20]) (by first | trivial | (simp only [xD]; omega) | (simp [xD]; done) | (simp [xD]; omega)) rfl rfl (by decide) 0 (by decide) (hts _ tw839) (fun _ h9 => h9) rfl (v := .ref (ga g [21, 0])) rfl dX7_addStep_54 ?_
        refine lv_iload_n hx hb dX7_addStep_57 rfl (lv_at hl 2 rfl) ?_
        refine x_aald hx hb hK hH (id := [21, 0]) (by first | trivial | (simp only [xD]; omega) | (simp [xD]; done) | (simp [xD]; omega)) 8 (L := 3) rfl (by decide) p rfl (by omega) (by decide) (v := .ref (ga g [22, 0, p])) (by show rq _ (if _ then _ else _) = _; rw [if_pos (show p < xLn 0 by show _ < 3; omega)]; rfl) dX7_addStep_58 ?_
        refine lv_iload_n hx hb dX7_addStep_59 rfl (lv_at hl 4 rfl) ?_
        refine x_cald hx hb hK hH (id := [22, 0, p]) (by first | trivial | (simp only [xD]; omega) | (simp [xD]; done) | (simp [xD]; omega)) (L := 8) rfl rfl j rfl (by omega) (by decide) dX7_addStep_60 ?_
        refine lv_bipush (v := 115) hx hb dX7_addStep_61 (by decide) ?_
        refine lv_icmp_ne (tgt := 70) hx hb dX7_addStep_63 (by decide) (fun q_ => absurd q_ (fun z_ => z_ hy2)) (fun _ => ?_)
        refine lv_iconst (v := 1) hx hb dX7_addStep_66 (by decide) ?_
        refine lv_goto (tgt := 71) hx hb dX7_addStep_67 (by decide) ?_
        refine lv_istore (lv' := [(5, .int 1), (4, .int 1), (0, .ref (ga g [20])), (1, .int (nI p)), (2, .int kd), (3, .int (nI j))]) hx hb dX7_addStep_71 hl (by decide) rfl (fun ls hl => ?_)
        refine lv_aload_n hx hb dX7_addStep_73 rfl (lv_at hl 2 rfl) ?_
        refine lv_iload hx hb dX7_addStep_74 (lv_at hl 1 rfl) ?_
        refine lv_if_eq (tgt := 84) hx hb dX7_addStep_76 (by decide) (fun q_ => absurd q_ (by decide)) (fun _ => ?_)
        refine lv_iload hx hb dX7_addStep_79 (lv_at hl 0 rfl) ?_
        refine lv_if_ne (tgt := 88) hx hb dX7_addStep_81 (by decide) (fun _ => ?_) (fun q_ => absurd q_ (by decide))
        refine lv_aload_n hx hb dX7_addStep_88 rfl (lv_at hl 2 rfl) ?_
        refine x_get (C := RX7) (T := TX7) (N := 24) (ci := 7) hx hb hts iu7 hown hK hH (id := [20]) (by first | trivial | (simp only [xD]; omega) | (simp [xD]; done) | (simp [xD]; omega)) rfl rfl (by decide) 9 (by decide) (hts _ tw848) (fun _ h9 => h9) rfl (v := .ref (ga g [24, 9])) rfl dX7_addStep_89 ?_
        refine lv_iload_n hx hb dX7_addStep_92 rfl (lv_at hl 3 rfl) ?_
        refine x_bald hx hb hK hH (id := [24, 9]) (by first | trivial | (simp only [xD]; omega) | (simp [xD]; done) | (simp [xD]; omega)) (L := 3) rfl rfl p rfl (by omega) (by decide) dX7_addStep_93 ?_
        refine lv_if_ne (tgt := 108) hx hb dX7_addStep_94 (by decide) (fun q_ => absurd q_ (fun z_ => z_ hu)) (fun _ => ?_)
        refine lv_aload_n hx hb dX7_addStep_97 rfl (lv_at hl 2 rfl) ?_
        refine x_get (C := RX7) (T := TX7) (N := 24) (ci := 7) hx hb hts iu7 hown hK hH (id := [20]) (by first | trivial | (simp only [xD]; omega) | (simp [xD]; done) | (simp [xD]; omega)) rfl rfl (by decide) 8 (by decide) (hts _ tw847) (fun _ h9 => h9) rfl (v := .ref (ga g [24, 8])) rfl dX7_addStep_98 ?_
        refine lv_iload_n hx hb dX7_addStep_101 rfl (lv_at hl 3 rfl) ?_
        refine x_iald hx hb hK hH (id := [24, 8]) (by first | trivial | (simp only [xD]; omega) | (simp [xD]; done) | (simp [xD]; omega)) (L := 3) rfl rfl p rfl (by omega) (by decide) dX7_addStep_102 ?_
        rw [show (I [24, 8] p) = (nI k) from (hs)]
        refine lv_bipush (v := 8) hx hb dX7_addStep_103 (by decide) ?_
        refine lv_icmp_ne (tgt := 112) hx hb dX7_addStep_105 (by decide) (fun _ => ?_) (fun q_ => absurd q_ (fun z_ => absurd ((nI_eq (a := k) (b := 8) (by omega) (by omega)).mp z_) (by omega)))
        refine lv_iconst (v := 0) hx hb dX7_addStep_112 (by decide) ?_
        obtain ⟨I31_, hI31_⟩ : ∃ z, z = up I [20] 23 0 := ⟨_, rfl⟩
        refine x_put (C := RX7) (T := TX7) (N := 24) (ci := 7) hx hb hts iu7 tyX7 tyX7_ok nmX7 hown hK hH hS (id := [20]) (by first | trivial | (simp only [xD]; omega) | (simp [xD]; done) | (simp [xD]; omega)) rfl rfl (by decide) 23 (by decide) (hts _ tw862) (fun _ h9 => h9) (Or.inl rfl) (ty := .int) (v := .int 0) (by decide +kernel) rfl rfl (I' := I31_) (F' := (xFh h)) (fun i hi => by rw [hI31_]; exact up_id hi) (fun _ _ => rfl) (fun j9 => by rw [hI31_, up_row]; exact xv_upd (ci := 7) (k := 23) rfl j9) dX7_addStep_113 (fun H locs hH hS => ?_)
        refine lv_aload_n hx hb dX7_addStep_116 rfl (lv_at hl 2 rfl) ?_
        refine x_get (C := RX7) (T := TX7) (N := 24) (ci := 7) hx hb hts iu7 hown hK hH (id := [20]) (by first | trivial | (simp only [xD]; omega) | (simp [xD]; done) | (simp [xD]; omega)) rfl rfl (by decide) 23 (by decide) (hts _ tw862) (fun _ h9 => h9) rfl (v := .int 0) (congrArg Value.int (by rw [hI31_]; exact up_at)) dX7_addStep_117 ?_
        refine lv_if_le (tgt := 125) hx hb dX7_addStep_120 (by decide) (fun _ => ?_) (fun q_ => absurd (by decide) q_)
        refine lv_aload_n hx hb dX7_addStep_125 rfl (lv_at hl 2 rfl) ?_
        refine x_get (C := RX7) (T := TX7) (N := 24) (ci := 7) hx hb hts iu7 hown hK hH (id := [20]) (by first | trivial | (simp only [xD]; omega) | (simp [xD]; done) | (simp [xD]; omega)) rfl rfl (by decide) 8 (by decide) (hts _ tw847) (fun _ h9 => h9) rfl (v := .ref (ga g [24, 8])) rfl dX7_addStep_126 ?_
        refine lv_iload_n hx hb dX7_addStep_129 rfl (lv_at hl 3 rfl) ?_
        refine x_iald hx hb hK hH (id := [24, 8]) (by first | trivial | (simp only [xD]; omega) | (simp [xD]; done) | (simp [xD]; omega)) (L := 3) rfl rfl p rfl (by omega) (by decide) dX7_addStep_130 ?_
        rw [show (I31_ [24, 8] p) = (nI k) from (by first | (rw [hI31_]; simp [up]; done) | (rw [hI31_]; simp [up]; exact hs) | (rw [hI31_]; simp [up, hs]; done))]
        refine lv_istore (lv' := [(6, .int (nI k)), (5, .int 1), (4, .int 1), (0, .ref (ga g [20])), (1, .int (nI p)), (2, .int kd), (3, .int (nI j))]) hx hb dX7_addStep_131 hl (by decide) rfl (fun ls hl => ?_)
        refine lv_aload_n hx hb dX7_addStep_133 rfl (lv_at hl 3 rfl) ?_
        refine x_get (C := RX7) (T := TX7) (N := 24) (ci := 7) hx hb hts iu7 hown hK hH (id := [20]) (by first | trivial | (simp only [xD]; omega) | (simp [xD]; done) | (simp [xD]; omega)) rfl rfl (by decide) 0 (by decide) (hts _ tw839) (fun _ h9 => h9) rfl (v := .ref (ga g [21, 0])) rfl dX7_addStep_134 ?_
        refine lv_iload_n hx hb dX7_addStep_137 rfl (lv_at hl 4 rfl) ?_
        refine x_aald hx hb hK hH (id := [21, 0]) (by first | trivial | (simp only [xD]; omega) | (simp [xD]; done) | (simp [xD]; omega)) 8 (L := 3) rfl (by decide) p rfl (by omega) (by decide) (v := .ref (ga g [22, 0, p])) (by show rq _ (if _ then _ else _) = _; rw [if_pos (show p < xLn 0 by show _ < 3; omega)]; rfl) dX7_addStep_138 ?_
        refine lv_iload hx hb dX7_addStep_139 (lv_at hl 0 rfl) ?_
        refine lv_iload_n hx hb dX7_addStep_141 rfl (lv_at hl 5 rfl) ?_
        obtain ⟨I32_, hI32_⟩ : ∃ z, z = up I31_ [22, 0, p] k kd := ⟨_, rfl⟩
        refine x_cast hx hb hK hH hS (id := [22, 0, p]) (by first | trivial | (simp only [xD]; omega) | (simp [xD]; done) | (simp [xD]; omega)) (L := 8) rfl k rfl (by omega) (by decide) hsc hI32_.symm dX7_addStep_142 (fun H locs hH hS => ?_)
        refine lv_aload_n hx hb dX7_addStep_143 rfl (lv_at hl 3 rfl) ?_
        refine x_get (C := RX7) (T := TX7) (N := 24) (ci := 7) hx hb hts iu7 hown hK hH (id := [20]) (by first | trivial | (simp only [xD]; omega) | (simp [xD]; done) | (simp [xD]; omega)) rfl rfl (by decide) 1 (by decide) (hts _ tw840) (fun _ h9 => h9) rfl (v := .ref (ga g [21, 1])) rfl dX7_addStep_144 ?_
        refine lv_iload_n hx hb dX7_addStep_147 rfl (lv_at hl 4 rfl) ?_
        refine x_aald hx hb hK hH (id := [21, 1]) (by first | trivial | (simp only [xD]; omega) | (simp [xD]; done) | (simp [xD]; omega)) 7 (L := 3) rfl (by decide) p rfl (by omega) (by decide) (v := .ref (ga g [22, 1, p])) (by show rq _ (if _ then _ else _) = _; rw [if_pos (show p < xLn 1 by show _ < 3; omega)]; rfl) dX7_addStep_148 ?_
        refine lv_iload hx hb dX7_addStep_149 (lv_at hl 0 rfl) ?_
        refine lv_iload_n hx hb dX7_addStep_151 rfl (lv_at hl 6 rfl) ?_
        obtain ⟨I33_, hI33_⟩ : ∃ z, z = up I32_ [22, 1, p] k (nI j) := ⟨_, rfl⟩
        refine x_iast hx hb hK hH hS (id := [22, 1, p]) (by first | trivial | (simp only [xD]; omega) | (simp [xD]; done) | (simp [xD]; omega)) (L := 8) rfl k rfl (by omega) (by decide) hI33_.symm dX7_addStep_152 (fun H locs hH hS => ?_)
        refine lv_aload_n hx hb dX7_addStep_153 rfl (lv_at hl 3 rfl) ?_
        refine x_get (C := RX7) (T := TX7) (N := 24) (ci := 7) hx hb hts iu7 hown hK hH (id := [20]) (by first | trivial | (simp only [xD]; omega) | (simp [xD]; done) | (simp [xD]; omega)) rfl rfl (by decide) 2 (by decide) (hts _ tw841) (fun _ h9 => h9) rfl (v := .ref (ga g [21, 2])) rfl dX7_addStep_154 ?_
        refine lv_iload_n hx hb dX7_addStep_157 rfl (lv_at hl 4 rfl) ?_
        refine x_aald hx hb hK hH (id := [21, 2]) (by first | trivial | (simp only [xD]; omega) | (simp [xD]; done) | (simp [xD]; omega)) 9 (L := 3) rfl (by decide) p rfl (by omega) (by decide) (v := .ref (ga g [22, 2, p])) (by show rq _ (if _ then _ else _) = _; rw [if_pos (show p < xLn 2 by show _ < 3; omega)]; rfl) dX7_addStep_158 ?_
        refine lv_iload hx hb dX7_addStep_159 (lv_at hl 0 rfl) ?_
        refine lv_iload_n hx hb dX7_addStep_161 rfl (lv_at hl 5 rfl) ?_
        refine lv_bipush (v := 116) hx hb dX7_addStep_162 (by decide) ?_
        refine lv_icmp_ne (tgt := 171) hx hb dX7_addStep_164 (by decide) (fun _ => ?_) (fun q_ => absurd q_ (fun z_ => c_23 z_))
        refine lv_iconst (v := 0) hx hb dX7_addStep_171 (by decide) ?_
        obtain ⟨I34_, hI34_⟩ : ∃ z, z = up I33_ [22, 2, p] k 0 := ⟨_, rfl⟩
        refine x_bast hx hb hK hH hS (id := [22, 2, p]) (by first | trivial | (simp only [xD]; omega) | (simp [xD]; done) | (simp [xD]; omega)) (L := 8) rfl k rfl (by omega) (by decide) (by rfl) hI34_.symm dX7_addStep_172 (fun H locs hH hS => ?_)
        refine lv_aload_n hx hb dX7_addStep_173 rfl (lv_at hl 3 rfl) ?_
        refine x_get (C := RX7) (T := TX7) (N := 24) (ci := 7) hx hb hts iu7 hown hK hH (id := [20]) (by first | trivial | (simp only [xD]; omega) | (simp [xD]; done) | (simp [xD]; omega)) rfl rfl (by decide) 3 (by decide) (hts _ tw842) (fun _ h9 => h9) rfl (v := .ref (ga g [21, 3])) rfl dX7_addStep_174 ?_
        refine lv_iload_n hx hb dX7_addStep_177 rfl (lv_at hl 4 rfl) ?_
        refine x_aald hx hb hK hH (id := [21, 3]) (by first | trivial | (simp only [xD]; omega) | (simp [xD]; done) | (simp [xD]; omega)) 7 (L := 3) rfl (by decide) p rfl (by omega) (by decide) (v := .ref (ga g [22, 3, p])) (by show rq _ (if _ then _ else _) = _; rw [if_pos (show p < xLn 3 by show _ < 3; omega)]; rfl) dX7_addStep_178 ?_
        refine lv_iload hx hb dX7_addStep_179 (lv_at hl 0 rfl) ?_
        refine lv_bipush (v := 10) hx hb dX7_addStep_181 (by decide) ?_
        obtain ⟨I35_, hI35_⟩ : ∃ z, z = up I34_ [22, 3, p] k 10 := ⟨_, rfl⟩
        refine x_iast hx hb hK hH hS (id := [22, 3, p]) (by first | trivial | (simp only [xD]; omega) | (simp [xD]; done) | (simp [xD]; omega)) (L := 8) rfl k rfl (by omega) (by decide) hI35_.symm dX7_addStep_183 (fun H locs hH hS => ?_)
        refine lv_aload_n hx hb dX7_addStep_184 rfl (lv_at hl 3 rfl) ?_
        refine x_get (C := RX7) (T := TX7) (N := 24) (ci := 7) hx hb hts iu7 hown hK hH (id := [20]) (by first | trivial | (simp only [xD]; omega) | (simp [xD]; done) | (simp [xD]; omega)) rfl rfl (by decide) 8 (by decide) (hts _ tw847) (fun _ h9 => h9) rfl (v := .ref (ga g [24, 8])) rfl dX7_addStep_185 ?_
        refine lv_iload_n hx hb dX7_addStep_188 rfl (lv_at hl 4 rfl) ?_
        refine lv_dup2_11 hx hb dX7_addStep_189 rfl rfl ?_
        refine x_iald hx hb hK hH (id := [24, 8]) (by first | trivial | (simp only [xD]; omega) | (simp [xD]; done) | (simp [xD]; omega)) (L := 3) rfl rfl p rfl (by omega) (by decide) dX7_addStep_190 ?_
        rw [show (I35_ [24, 8] p) = (nI k) from (by first | (rw [hI35_, hI34_, hI33_, hI32_, hI31_]; simp [up]; done) | (rw [hI35_, hI34_, hI33_, hI32_, hI31_]; simp [up]; exact hs) | (rw [hI35_, hI34_, hI33_, hI32_, hI31_]; simp [up, hs]; done))]
        refine lv_iconst (v := 1) hx hb dX7_addStep_191 (by decide) ?_
        refine lv_iadd hx hb dX7_addStep_192 ?_
        rw [show ((nI k) + 1) = (nI (k + 1)) from (nI_1 k)]
        obtain ⟨I36_, hI36_⟩ : ∃ z, z = up I35_ [24, 8] p (nI (k + 1)) := ⟨_, rfl⟩
        refine x_iast hx hb hK hH hS (id := [24, 8]) (by first | trivial | (simp only [xD]; omega) | (simp [xD]; done) | (simp [xD]; omega)) (L := 3) rfl p rfl (by omega) (by decide) hI36_.symm dX7_addStep_193 (fun H locs hH hS => ?_)
        refine lv_iload hx hb dX7_addStep_194 (lv_at hl 0 rfl) ?_
        exact x_iret hx hb hr hlocks hS dX7_addStep_196 rfl (by rw [hI36_, hI35_, hI34_, hI33_, hI32_, hI31_] at hH; unfold mStp; rw [show b01 (decide (kd = 116)) = 0 from (b01_f (decide_eq_false c_23)).symm]; exact hH)

set_option maxHeartbeats 1000000 in
set_option maxRecDepth 100000 in
theorem c_X7_adds_0 (l : Launch) (g : xG) (h : xS) (I : xI) (n : Nat) (p j m : Nat) (hp : p < 3) (hj : j < 8) (hm : m < 3) (hmm : I [23, 7, p, j] 0 = nI m) (so a b : Int32) (hsc : narrow .char (.int so) = .int so) : xM l yX7_adds (xws yX7_adds cX7_adds 8 (some FieldType.int)) 1 12 g [.ref (ga g [20]), .int (nI p), .int (nI j), .int 0, .int so, .int a, .int b] (xR g (xD h) I (xFh h) n) (some (.int (nI (m + 1)))) (xR g (xD h) (mAdd I p j 0 m so a b) (xFh h) n) 0 0 := by
  refine xM.of (by decide) (Nat.le_of_ble_eq_true rfl) ?_
  intro P_ e_ s m_ bl_ mt_ cd_ ls hx hb hr hown hlocks hml hnm hE hK hts hH hS hl
  have hl : lv_has ls 8 [(0, .ref (ga g [20])), (1, .int (nI p)), (2, .int (nI j)), (3, .int 0), (4, .int so), (5, .int a), (6, .int b)] := hl
  refine lv_iconst (v := 3) hx hb dX7_adds_0 (by decide) ?_
  refine lv_iload_n hx hb dX7_adds_1 rfl (lv_at hl 3 rfl) ?_
  refine lv_imul hx hb dX7_adds_2 ?_
  refine lv_aload_n hx hb dX7_adds_3 rfl (lv_at hl 0 rfl) ?_
  refine x_get (C := RX7) (T := TX7) (N := 24) (ci := 7) hx hb hts iu7 hown hK hH (id := [20]) (by first | trivial | (simp only [xD]; omega) | (simp [xD]; done) | (simp [xD]; omega)) rfl rfl (by decide) 7 (by decide) (hts _ tw846) (fun _ h9 => h9) rfl (v := .ref (ga g [21, 7])) rfl dX7_adds_4 ?_
  refine lv_iload_n hx hb dX7_adds_7 rfl (lv_at hl 1 rfl) ?_
  refine x_aald hx hb hK hH (id := [21, 7]) (by first | trivial | (simp only [xD]; omega) | (simp [xD]; done) | (simp [xD]; omega)) 10 (L := 3) rfl (by decide) p rfl (by omega) (by decide) (v := .ref (ga g [22, 7, p])) (by show rq _ (if _ then _ else _) = _; rw [if_pos (show p < xLn 7 by show _ < 3; omega)]; rfl) dX7_adds_8 ?_
  refine lv_iload_n hx hb dX7_adds_9 rfl (lv_at hl 2 rfl) ?_
  refine x_aald hx hb hK hH (id := [22, 7, p]) (by first | trivial | (simp only [xD]; omega) | (simp [xD]; done) | (simp [xD]; omega)) 7 (L := 8) rfl (by decide) j rfl (by omega) (by decide) (v := .ref (ga g [23, 7, p, j])) (by show rq _ (if _ then _ else _) = _; rw [if_pos (by omega)]; rfl) dX7_adds_10 ?_
  refine lv_iload_n hx hb dX7_adds_11 rfl (lv_at hl 3 rfl) ?_
  refine x_iald hx hb hK hH (id := [23, 7, p, j]) (by first | trivial | (simp only [xD]; omega) | (simp [xD]; done) | (simp [xD]; omega)) (L := 2) rfl rfl 0 (by rfl) (by omega) (by decide) dX7_adds_12 ?_
  rw [show (I [23, 7, p, j] 0) = (nI m) from (hmm)]
  refine lv_iadd hx hb dX7_adds_13 ?_
  rw [show ((3 * 0) + (nI m)) = (nI (3 * 0 + m)) from (mIx (by decide) m)]
  refine lv_istore (lv' := [(7, .int (nI (3 * 0 + m))), (0, .ref (ga g [20])), (1, .int (nI p)), (2, .int (nI j)), (3, .int 0), (4, .int so), (5, .int a), (6, .int b)]) hx hb dX7_adds_14 hl (by decide) rfl (fun ls hl => ?_)
  refine lv_aload_n hx hb dX7_adds_16 rfl (lv_at hl 1 rfl) ?_
  refine x_get (C := RX7) (T := TX7) (N := 24) (ci := 7) hx hb hts iu7 hown hK hH (id := [20]) (by first | trivial | (simp only [xD]; omega) | (simp [xD]; done) | (simp [xD]; omega)) rfl rfl (by decide) 4 (by decide) (hts _ tw843) (fun _ h9 => h9) rfl (v := .ref (ga g [21, 4])) rfl dX7_adds_17 ?_
  refine lv_iload_n hx hb dX7_adds_20 rfl (lv_at hl 2 rfl) ?_
  refine x_aald hx hb hK hH (id := [21, 4]) (by first | trivial | (simp only [xD]; omega) | (simp [xD]; done) | (simp [xD]; omega)) 11 (L := 3) rfl (by decide) p rfl (by omega) (by decide) (v := .ref (ga g [22, 4, p])) (by show rq _ (if _ then _ else _) = _; rw [if_pos (show p < xLn 4 by show _ < 3; omega)]; rfl) dX7_adds_21 ?_
  refine lv_iload_n hx hb dX7_adds_22 rfl (lv_at hl 3 rfl) ?_
  refine x_aald hx hb hK hH (id := [22, 4, p]) (by first | trivial | (simp only [xD]; omega) | (simp [xD]; done) | (simp [xD]; omega)) 8 (L := 8) rfl (by decide) j rfl (by omega) (by decide) (v := .ref (ga g [23, 4, p, j])) (by show rq _ (if _ then _ else _) = _; rw [if_pos (by omega)]; rfl) dX7_adds_23 ?_
  refine lv_iload hx hb dX7_adds_24 (lv_at hl 0 rfl) ?_
  refine lv_iload hx hb dX7_adds_26 (lv_at hl 5 rfl) ?_
  obtain ⟨I1_, hI1_⟩ : ∃ z, z = up I [23, 4, p, j] ((3 * 0 + m)) so := ⟨_, rfl⟩
  refine x_cast hx hb hK hH hS (id := [23, 4, p, j]) (by first | trivial | (simp only [xD]; omega) | (simp [xD]; done) | (simp [xD]; omega)) (L := 6) rfl ((3 * 0 + m)) rfl (by omega) (by decide) hsc hI1_.symm dX7_adds_28 (fun H locs hH hS => ?_)
  refine lv_aload_n hx hb dX7_adds_29 rfl (lv_at hl 1 rfl) ?_
  refine x_get (C := RX7) (T := TX7) (N := 24) (ci := 7) hx hb hts iu7 hown hK hH (id := [20]) (by first | trivial | (simp only [xD]; omega) | (simp [xD]; done) | (simp [xD]; omega)) rfl rfl (by decide) 5 (by decide) (hts _ tw844) (fun _ h9 => h9) rfl (v := .ref (ga g [21, 5])) rfl dX7_adds_30 ?_
  refine lv_iload_n hx hb dX7_adds_33 rfl (lv_at hl 2 rfl) ?_
  refine x_aald hx hb hK hH (id := [21, 5]) (by first | trivial | (simp only [xD]; omega) | (simp [xD]; done) | (simp [xD]; omega)) 10 (L := 3) rfl (by decide) p rfl (by omega) (by decide) (v := .ref (ga g [22, 5, p])) (by show rq _ (if _ then _ else _) = _; rw [if_pos (show p < xLn 5 by show _ < 3; omega)]; rfl) dX7_adds_34 ?_
  refine lv_iload_n hx hb dX7_adds_35 rfl (lv_at hl 3 rfl) ?_
  refine x_aald hx hb hK hH (id := [22, 5, p]) (by first | trivial | (simp only [xD]; omega) | (simp [xD]; done) | (simp [xD]; omega)) 7 (L := 8) rfl (by decide) j rfl (by omega) (by decide) (v := .ref (ga g [23, 5, p, j])) (by show rq _ (if _ then _ else _) = _; rw [if_pos (by omega)]; rfl) dX7_adds_36 ?_
  refine lv_iload hx hb dX7_adds_37 (lv_at hl 0 rfl) ?_
  refine lv_iload hx hb dX7_adds_39 (lv_at hl 6 rfl) ?_
  obtain ⟨I2_, hI2_⟩ : ∃ z, z = up I1_ [23, 5, p, j] ((3 * 0 + m)) a := ⟨_, rfl⟩
  refine x_iast hx hb hK hH hS (id := [23, 5, p, j]) (by first | trivial | (simp only [xD]; omega) | (simp [xD]; done) | (simp [xD]; omega)) (L := 6) rfl ((3 * 0 + m)) rfl (by omega) (by decide) hI2_.symm dX7_adds_41 (fun H locs hH hS => ?_)
  refine lv_aload_n hx hb dX7_adds_42 rfl (lv_at hl 1 rfl) ?_
  refine x_get (C := RX7) (T := TX7) (N := 24) (ci := 7) hx hb hts iu7 hown hK hH (id := [20]) (by first | trivial | (simp only [xD]; omega) | (simp [xD]; done) | (simp [xD]; omega)) rfl rfl (by decide) 6 (by decide) (hts _ tw845) (fun _ h9 => h9) rfl (v := .ref (ga g [21, 6])) rfl dX7_adds_43 ?_
  refine lv_iload_n hx hb dX7_adds_46 rfl (lv_at hl 2 rfl) ?_
  refine x_aald hx hb hK hH (id := [21, 6]) (by first | trivial | (simp only [xD]; omega) | (simp [xD]; done) | (simp [xD]; omega)) 10 (L := 3) rfl (by decide) p rfl (by omega) (by decide) (v := .ref (ga g [22, 6, p])) (by show rq _ (if _ then _ else _) = _; rw [if_pos (show p < xLn 6 by show _ < 3; omega)]; rfl) dX7_adds_47 ?_
  refine lv_iload_n hx hb dX7_adds_48 rfl (lv_at hl 3 rfl) ?_
  refine x_aald hx hb hK hH (id := [22, 6, p]) (by first | trivial | (simp only [xD]; omega) | (simp [xD]; done) | (simp [xD]; omega)) 7 (L := 8) rfl (by decide) j rfl (by omega) (by decide) (v := .ref (ga g [23, 6, p, j])) (by show rq _ (if _ then _ else _) = _; rw [if_pos (by omega)]; rfl) dX7_adds_49 ?_
  refine lv_iload hx hb dX7_adds_50 (lv_at hl 0 rfl) ?_
  refine lv_iload hx hb dX7_adds_52 (lv_at hl 7 rfl) ?_
  obtain ⟨I3_, hI3_⟩ : ∃ z, z = up I2_ [23, 6, p, j] ((3 * 0 + m)) b := ⟨_, rfl⟩
  refine x_iast hx hb hK hH hS (id := [23, 6, p, j]) (by first | trivial | (simp only [xD]; omega) | (simp [xD]; done) | (simp [xD]; omega)) (L := 6) rfl ((3 * 0 + m)) rfl (by omega) (by decide) hI3_.symm dX7_adds_54 (fun H locs hH hS => ?_)
  refine lv_aload_n hx hb dX7_adds_55 rfl (lv_at hl 1 rfl) ?_
  refine x_get (C := RX7) (T := TX7) (N := 24) (ci := 7) hx hb hts iu7 hown hK hH (id := [20]) (by first | trivial | (simp only [xD]; omega) | (simp [xD]; done) | (simp [xD]; omega)) rfl rfl (by decide) 7 (by decide) (hts _ tw846) (fun _ h9 => h9) rfl (v := .ref (ga g [21, 7])) rfl dX7_adds_56 ?_
  refine lv_iload_n hx hb dX7_adds_59 rfl (lv_at hl 2 rfl) ?_
  refine x_aald hx hb hK hH (id := [21, 7]) (by first | trivial | (simp only [xD]; omega) | (simp [xD]; done) | (simp [xD]; omega)) 10 (L := 3) rfl (by decide) p rfl (by omega) (by decide) (v := .ref (ga g [22, 7, p])) (by show rq _ (if _ then _ else _) = _; rw [if_pos (show p < xLn 7 by show _ < 3; omega)]; rfl) dX7_adds_60 ?_
  refine lv_iload_n hx hb dX7_adds_61 rfl (lv_at hl 3 rfl) ?_
  refine x_aald hx hb hK hH (id := [22, 7, p]) (by first | trivial | (simp only [xD]; omega) | (simp [xD]; done) | (simp [xD]; omega)) 7 (L := 8) rfl (by decide) j rfl (by omega) (by decide) (v := .ref (ga g [23, 7, p, j])) (by show rq _ (if _ then _ else _) = _; rw [if_pos (by omega)]; rfl) dX7_adds_62 ?_
  refine lv_iload_n hx hb dX7_adds_63 rfl (lv_at hl 4 rfl) ?_
  refine lv_dup2_11 hx hb dX7_adds_64 rfl rfl ?_
  refine x_iald hx hb hK hH (id := [23, 7, p, j]) (by first | trivial | (simp only [xD]; omega) | (simp [xD]; done) | (simp [xD]; omega)) (L := 2) rfl rfl 0 (by rfl) (by omega) (by decide) dX7_adds_65 ?_
  rw [show (I3_ [23, 7, p, j] 0) = (nI m) from (by first | (rw [hI3_, hI2_, hI1_]; simp [up]; done) | (rw [hI3_, hI2_, hI1_]; simp [up]; exact hmm) | (rw [hI3_, hI2_, hI1_]; simp [up, hmm]; done))]
  refine lv_iconst (v := 1) hx hb dX7_adds_66 (by decide) ?_
  refine lv_iadd hx hb dX7_adds_67 ?_
  rw [show ((nI m) + 1) = (nI (m + 1)) from (nI_1 m)]
  obtain ⟨I4_, hI4_⟩ : ∃ z, z = up I3_ [23, 7, p, j] 0 (nI (m + 1)) := ⟨_, rfl⟩
  refine x_iast hx hb hK hH hS (id := [23, 7, p, j]) (by first | trivial | (simp only [xD]; omega) | (simp [xD]; done) | (simp [xD]; omega)) (L := 2) rfl 0 (by rfl) (by omega) (by decide) hI4_.symm dX7_adds_68 (fun H locs hH hS => ?_)
  refine lv_aload_n hx hb dX7_adds_69 rfl (lv_at hl 1 rfl) ?_
  refine x_get (C := RX7) (T := TX7) (N := 24) (ci := 7) hx hb hts iu7 hown hK hH (id := [20]) (by first | trivial | (simp only [xD]; omega) | (simp [xD]; done) | (simp [xD]; omega)) rfl rfl (by decide) 7 (by decide) (hts _ tw846) (fun _ h9 => h9) rfl (v := .ref (ga g [21, 7])) rfl dX7_adds_70 ?_
  refine lv_iload_n hx hb dX7_adds_73 rfl (lv_at hl 2 rfl) ?_
  refine x_aald hx hb hK hH (id := [21, 7]) (by first | trivial | (simp only [xD]; omega) | (simp [xD]; done) | (simp [xD]; omega)) 10 (L := 3) rfl (by decide) p rfl (by omega) (by decide) (v := .ref (ga g [22, 7, p])) (by show rq _ (if _ then _ else _) = _; rw [if_pos (show p < xLn 7 by show _ < 3; omega)]; rfl) dX7_adds_74 ?_
  refine lv_iload_n hx hb dX7_adds_75 rfl (lv_at hl 3 rfl) ?_
  refine x_aald hx hb hK hH (id := [22, 7, p]) (by first | trivial | (simp only [xD]; omega) | (simp [xD]; done) | (simp [xD]; omega)) 7 (L := 8) rfl (by decide) j rfl (by omega) (by decide) (v := .ref (ga g [23, 7, p, j])) (by show rq _ (if _ then _ else _) = _; rw [if_pos (by omega)]; rfl) dX7_adds_76 ?_
  refine lv_iload_n hx hb dX7_adds_77 rfl (lv_at hl 4 rfl) ?_
  refine x_iald hx hb hK hH (id := [23, 7, p, j]) (by first | trivial | (simp only [xD]; omega) | (simp [xD]; done) | (simp [xD]; omega)) (L := 2) rfl rfl 0 (by rfl) (by omega) (by decide) dX7_adds_78 ?_
  rw [show (I4_ [23, 7, p, j] 0) = (nI (m + 1)) from (by rw [hI4_]; exact up_at)]
  exact x_iret hx hb hr hlocks hS dX7_adds_79 rfl (by rw [hI4_, hI3_, hI2_, hI1_] at hH; exact hH)

set_option maxHeartbeats 1000000 in
set_option maxRecDepth 100000 in
theorem c_X7_adds_1 (l : Launch) (g : xG) (h : xS) (I : xI) (n : Nat) (p j m : Nat) (hp : p < 3) (hj : j < 8) (hm : m < 3) (hmm : I [23, 7, p, j] 1 = nI m) (so a b : Int32) (hsc : narrow .char (.int so) = .int so) : xM l yX7_adds (xws yX7_adds cX7_adds 8 (some FieldType.int)) 1 12 g [.ref (ga g [20]), .int (nI p), .int (nI j), .int 1, .int so, .int a, .int b] (xR g (xD h) I (xFh h) n) (some (.int (nI (m + 1)))) (xR g (xD h) (mAdd I p j 1 m so a b) (xFh h) n) 0 0 := by
  refine xM.of (by decide) (Nat.le_of_ble_eq_true rfl) ?_
  intro P_ e_ s m_ bl_ mt_ cd_ ls hx hb hr hown hlocks hml hnm hE hK hts hH hS hl
  have hl : lv_has ls 8 [(0, .ref (ga g [20])), (1, .int (nI p)), (2, .int (nI j)), (3, .int 1), (4, .int so), (5, .int a), (6, .int b)] := hl
  refine lv_iconst (v := 3) hx hb dX7_adds_0 (by decide) ?_
  refine lv_iload_n hx hb dX7_adds_1 rfl (lv_at hl 3 rfl) ?_
  refine lv_imul hx hb dX7_adds_2 ?_
  refine lv_aload_n hx hb dX7_adds_3 rfl (lv_at hl 0 rfl) ?_
  refine x_get (C := RX7) (T := TX7) (N := 24) (ci := 7) hx hb hts iu7 hown hK hH (id := [20]) (by first | trivial | (simp only [xD]; omega) | (simp [xD]; done) | (simp [xD]; omega)) rfl rfl (by decide) 7 (by decide) (hts _ tw846) (fun _ h9 => h9) rfl (v := .ref (ga g [21, 7])) rfl dX7_adds_4 ?_
  refine lv_iload_n hx hb dX7_adds_7 rfl (lv_at hl 1 rfl) ?_
  refine x_aald hx hb hK hH (id := [21, 7]) (by first | trivial | (simp only [xD]; omega) | (simp [xD]; done) | (simp [xD]; omega)) 10 (L := 3) rfl (by decide) p rfl (by omega) (by decide) (v := .ref (ga g [22, 7, p])) (by show rq _ (if _ then _ else _) = _; rw [if_pos (show p < xLn 7 by show _ < 3; omega)]; rfl) dX7_adds_8 ?_
  refine lv_iload_n hx hb dX7_adds_9 rfl (lv_at hl 2 rfl) ?_
  refine x_aald hx hb hK hH (id := [22, 7, p]) (by first | trivial | (simp only [xD]; omega) | (simp [xD]; done) | (simp [xD]; omega)) 7 (L := 8) rfl (by decide) j rfl (by omega) (by decide) (v := .ref (ga g [23, 7, p, j])) (by show rq _ (if _ then _ else _) = _; rw [if_pos (by omega)]; rfl) dX7_adds_10 ?_
  refine lv_iload_n hx hb dX7_adds_11 rfl (lv_at hl 3 rfl) ?_
  refine x_iald hx hb hK hH (id := [23, 7, p, j]) (by first | trivial | (simp only [xD]; omega) | (simp [xD]; done) | (simp [xD]; omega)) (L := 2) rfl rfl 1 (by rfl) (by omega) (by decide) dX7_adds_12 ?_
  rw [show (I [23, 7, p, j] 1) = (nI m) from (hmm)]
  refine lv_iadd hx hb dX7_adds_13 ?_
  rw [show ((3 * 1) + (nI m)) = (nI (3 * 1 + m)) from (mIx (by decide) m)]
  refine lv_istore (lv' := [(7, .int (nI (3 * 1 + m))), (0, .ref (ga g [20])), (1, .int (nI p)), (2, .int (nI j)), (3, .int 1), (4, .int so), (5, .int a), (6, .int b)]) hx hb dX7_adds_14 hl (by decide) rfl (fun ls hl => ?_)
  refine lv_aload_n hx hb dX7_adds_16 rfl (lv_at hl 1 rfl) ?_
  refine x_get (C := RX7) (T := TX7) (N := 24) (ci := 7) hx hb hts iu7 hown hK hH (id := [20]) (by first | trivial | (simp only [xD]; omega) | (simp [xD]; done) | (simp [xD]; omega)) rfl rfl (by decide) 4 (by decide) (hts _ tw843) (fun _ h9 => h9) rfl (v := .ref (ga g [21, 4])) rfl dX7_adds_17 ?_
  refine lv_iload_n hx hb dX7_adds_20 rfl (lv_at hl 2 rfl) ?_
  refine x_aald hx hb hK hH (id := [21, 4]) (by first | trivial | (simp only [xD]; omega) | (simp [xD]; done) | (simp [xD]; omega)) 11 (L := 3) rfl (by decide) p rfl (by omega) (by decide) (v := .ref (ga g [22, 4, p])) (by show rq _ (if _ then _ else _) = _; rw [if_pos (show p < xLn 4 by show _ < 3; omega)]; rfl) dX7_adds_21 ?_
  refine lv_iload_n hx hb dX7_adds_22 rfl (lv_at hl 3 rfl) ?_
  refine x_aald hx hb hK hH (id := [22, 4, p]) (by first | trivial | (simp only [xD]; omega) | (simp [xD]; done) | (simp [xD]; omega)) 8 (L := 8) rfl (by decide) j rfl (by omega) (by decide) (v := .ref (ga g [23, 4, p, j])) (by show rq _ (if _ then _ else _) = _; rw [if_pos (by omega)]; rfl) dX7_adds_23 ?_
  refine lv_iload hx hb dX7_adds_24 (lv_at hl 0 rfl) ?_
  refine lv_iload hx hb dX7_adds_26 (lv_at hl 5 rfl) ?_
  obtain ⟨I1_, hI1_⟩ : ∃ z, z = up I [23, 4, p, j] ((3 * 1 + m)) so := ⟨_, rfl⟩
  refine x_cast hx hb hK hH hS (id := [23, 4, p, j]) (by first | trivial | (simp only [xD]; omega) | (simp [xD]; done) | (simp [xD]; omega)) (L := 6) rfl ((3 * 1 + m)) rfl (by omega) (by decide) hsc hI1_.symm dX7_adds_28 (fun H locs hH hS => ?_)
  refine lv_aload_n hx hb dX7_adds_29 rfl (lv_at hl 1 rfl) ?_
  refine x_get (C := RX7) (T := TX7) (N := 24) (ci := 7) hx hb hts iu7 hown hK hH (id := [20]) (by first | trivial | (simp only [xD]; omega) | (simp [xD]; done) | (simp [xD]; omega)) rfl rfl (by decide) 5 (by decide) (hts _ tw844) (fun _ h9 => h9) rfl (v := .ref (ga g [21, 5])) rfl dX7_adds_30 ?_
  refine lv_iload_n hx hb dX7_adds_33 rfl (lv_at hl 2 rfl) ?_
  refine x_aald hx hb hK hH (id := [21, 5]) (by first | trivial | (simp only [xD]; omega) | (simp [xD]; done) | (simp [xD]; omega)) 10 (L := 3) rfl (by decide) p rfl (by omega) (by decide) (v := .ref (ga g [22, 5, p])) (by show rq _ (if _ then _ else _) = _; rw [if_pos (show p < xLn 5 by show _ < 3; omega)]; rfl) dX7_adds_34 ?_
  refine lv_iload_n hx hb dX7_adds_35 rfl (lv_at hl 3 rfl) ?_
  refine x_aald hx hb hK hH (id := [22, 5, p]) (by first | trivial | (simp only [xD]; omega) | (simp [xD]; done) | (simp [xD]; omega)) 7 (L := 8) rfl (by decide) j rfl (by omega) (by decide) (v := .ref (ga g [23, 5, p, j])) (by show rq _ (if _ then _ else _) = _; rw [if_pos (by omega)]; rfl) dX7_adds_36 ?_
  refine lv_iload hx hb dX7_adds_37 (lv_at hl 0 rfl) ?_
  refine lv_iload hx hb dX7_adds_39 (lv_at hl 6 rfl) ?_
  obtain ⟨I2_, hI2_⟩ : ∃ z, z = up I1_ [23, 5, p, j] ((3 * 1 + m)) a := ⟨_, rfl⟩
  refine x_iast hx hb hK hH hS (id := [23, 5, p, j]) (by first | trivial | (simp only [xD]; omega) | (simp [xD]; done) | (simp [xD]; omega)) (L := 6) rfl ((3 * 1 + m)) rfl (by omega) (by decide) hI2_.symm dX7_adds_41 (fun H locs hH hS => ?_)
  refine lv_aload_n hx hb dX7_adds_42 rfl (lv_at hl 1 rfl) ?_
  refine x_get (C := RX7) (T := TX7) (N := 24) (ci := 7) hx hb hts iu7 hown hK hH (id := [20]) (by first | trivial | (simp only [xD]; omega) | (simp [xD]; done) | (simp [xD]; omega)) rfl rfl (by decide) 6 (by decide) (hts _ tw845) (fun _ h9 => h9) rfl (v := .ref (ga g [21, 6])) rfl dX7_adds_43 ?_
  refine lv_iload_n hx hb dX7_adds_46 rfl (lv_at hl 2 rfl) ?_
  refine x_aald hx hb hK hH (id := [21, 6]) (by first | trivial | (simp only [xD]; omega) | (simp [xD]; done) | (simp [xD]; omega)) 10 (L := 3) rfl (by decide) p rfl (by omega) (by decide) (v := .ref (ga g [22, 6, p])) (by show rq _ (if _ then _ else _) = _; rw [if_pos (show p < xLn 6 by show _ < 3; omega)]; rfl) dX7_adds_47 ?_
  refine lv_iload_n hx hb dX7_adds_48 rfl (lv_at hl 3 rfl) ?_
  refine x_aald hx hb hK hH (id := [22, 6, p]) (by first | trivial | (simp only [xD]; omega) | (simp [xD]; done) | (simp [xD]; omega)) 7 (L := 8) rfl (by decide) j rfl (by omega) (by decide) (v := .ref (ga g [23, 6, p, j])) (by show rq _ (if _ then _ else _) = _; rw [if_pos (by omega)]; rfl) dX7_adds_49 ?_
  refine lv_iload hx hb dX7_adds_50 (lv_at hl 0 rfl) ?_
  refine lv_iload hx hb dX7_adds_52 (lv_at hl 7 rfl) ?_
  obtain ⟨I3_, hI3_⟩ : ∃ z, z = up I2_ [23, 6, p, j] ((3 * 1 + m)) b := ⟨_, rfl⟩
  refine x_iast hx hb hK hH hS (id := [23, 6, p, j]) (by first | trivial | (simp only [xD]; omega) | (simp [xD]; done) | (simp [xD]; omega)) (L := 6) rfl ((3 * 1 + m)) rfl (by omega) (by decide) hI3_.symm dX7_adds_54 (fun H locs hH hS => ?_)
  refine lv_aload_n hx hb dX7_adds_55 rfl (lv_at hl 1 rfl) ?_
  refine x_get (C := RX7) (T := TX7) (N := 24) (ci := 7) hx hb hts iu7 hown hK hH (id := [20]) (by first | trivial | (simp only [xD]; omega) | (simp [xD]; done) | (simp [xD]; omega)) rfl rfl (by decide) 7 (by decide) (hts _ tw846) (fun _ h9 => h9) rfl (v := .ref (ga g [21, 7])) rfl dX7_adds_56 ?_
  refine lv_iload_n hx hb dX7_adds_59 rfl (lv_at hl 2 rfl) ?_
  refine x_aald hx hb hK hH (id := [21, 7]) (by first | trivial | (simp only [xD]; omega) | (simp [xD]; done) | (simp [xD]; omega)) 10 (L := 3) rfl (by decide) p rfl (by omega) (by decide) (v := .ref (ga g [22, 7, p])) (by show rq _ (if _ then _ else _) = _; rw [if_pos (show p < xLn 7 by show _ < 3; omega)]; rfl) dX7_adds_60 ?_
  refine lv_iload_n hx hb dX7_adds_61 rfl (lv_at hl 3 rfl) ?_
  refine x_aald hx hb hK hH (id := [22, 7, p]) (by first | trivial | (simp only [xD]; omega) | (simp [xD]; done) | (simp [xD]; omega)) 7 (L := 8) rfl (by decide) j rfl (by omega) (by decide) (v := .ref (ga g [23, 7, p, j])) (by show rq _ (if _ then _ else _) = _; rw [if_pos (by omega)]; rfl) dX7_adds_62 ?_
  refine lv_iload_n hx hb dX7_adds_63 rfl (lv_at hl 4 rfl) ?_
  refine lv_dup2_11 hx hb dX7_adds_64 rfl rfl ?_
  refine x_iald hx hb hK hH (id := [23, 7, p, j]) (by first | trivial | (simp only [xD]; omega) | (simp [xD]; done) | (simp [xD]; omega)) (L := 2) rfl rfl 1 (by rfl) (by omega) (by decide) dX7_adds_65 ?_
  rw [show (I3_ [23, 7, p, j] 1) = (nI m) from (by first | (rw [hI3_, hI2_, hI1_]; simp [up]; done) | (rw [hI3_, hI2_, hI1_]; simp [up]; exact hmm) | (rw [hI3_, hI2_, hI1_]; simp [up, hmm]; done))]
  refine lv_iconst (v := 1) hx hb dX7_adds_66 (by decide) ?_
  refine lv_iadd hx hb dX7_adds_67 ?_
  rw [show ((nI m) + 1) = (nI (m + 1)) from (nI_1 m)]
  obtain ⟨I4_, hI4_⟩ : ∃ z, z = up I3_ [23, 7, p, j] 1 (nI (m + 1)) := ⟨_, rfl⟩
  refine x_iast hx hb hK hH hS (id := [23, 7, p, j]) (by first | trivial | (simp only [xD]; omega) | (simp [xD]; done) | (simp [xD]; omega)) (L := 2) rfl 1 (by rfl) (by omega) (by decide) hI4_.symm dX7_adds_68 (fun H locs hH hS => ?_)
  refine lv_aload_n hx hb dX7_adds_69 rfl (lv_at hl 1 rfl) ?_
  refine x_get (C := RX7) (T := TX7) (N := 24) (ci := 7) hx hb hts iu7 hown hK hH (id := [20]) (by first | trivial | (simp only [xD]; omega) | (simp [xD]; done) | (simp [xD]; omega)) rfl rfl (by decide) 7 (by decide) (hts _ tw846) (fun _ h9 => h9) rfl (v := .ref (ga g [21, 7])) rfl dX7_adds_70 ?_
  refine lv_iload_n hx hb dX7_adds_73 rfl (lv_at hl 2 rfl) ?_
  refine x_aald hx hb hK hH (id := [21, 7]) (by first | trivial | (simp only [xD]; omega) | (simp [xD]; done) | (simp [xD]; omega)) 10 (L := 3) rfl (by decide) p rfl (by omega) (by decide) (v := .ref (ga g [22, 7, p])) (by show rq _ (if _ then _ else _) = _; rw [if_pos (show p < xLn 7 by show _ < 3; omega)]; rfl) dX7_adds_74 ?_
  refine lv_iload_n hx hb dX7_adds_75 rfl (lv_at hl 3 rfl) ?_
  refine x_aald hx hb hK hH (id := [22, 7, p]) (by first | trivial | (simp only [xD]; omega) | (simp [xD]; done) | (simp [xD]; omega)) 7 (L := 8) rfl (by decide) j rfl (by omega) (by decide) (v := .ref (ga g [23, 7, p, j])) (by show rq _ (if _ then _ else _) = _; rw [if_pos (by omega)]; rfl) dX7_adds_76 ?_
  refine lv_iload_n hx hb dX7_adds_77 rfl (lv_at hl 4 rfl) ?_
  refine x_iald hx hb hK hH (id := [23, 7, p, j]) (by first | trivial | (simp only [xD]; omega) | (simp [xD]; done) | (simp [xD]; omega)) (L := 2) rfl rfl 1 (by rfl) (by omega) (by decide) dX7_adds_78 ?_
  rw [show (I4_ [23, 7, p, j] 1) = (nI (m + 1)) from (by rw [hI4_]; exact up_at)]
  exact x_iret hx hb hr hlocks hS dX7_adds_79 rfl (by rw [hI4_, hI3_, hI2_, hI1_] at hH; exact hH)

set_option maxHeartbeats 1000000 in
set_option maxRecDepth 100000 in
theorem c_X7_addEntry_p (l : Launch) (g : xG) (h : xS) (I : xI) (n : Nat) (q : Nat) (hq : q ≤ 3) (hz : I [20] 10 = nI q) (x y : Int32) (so a b : Int32) (hxb : sIn x 0 (nI q) = false) : xM l yX7_addEntry (xws yX7_addEntry cX7_addEntry 6 (some FieldType.int)) 4 77 g [.ref (ga g [20]), .int x, .int y, .int so, .int a, .int b] (xR g (xD h) I (xFh h) n) (some (.int 0)) (xR g (xD h) (up I [20] 23 1) (xFh h) n) 0 0 := by
  refine xM.of (by decide) (Nat.le_of_ble_eq_true rfl) ?_
  intro P_ e_ s m_ bl_ mt_ cd_ ls hx hb hr hown hlocks hml hnm hE hK hts hH hS hl
  have hl : lv_has ls 6 [(0, .ref (ga g [20])), (1, .int x), (2, .int y), (3, .int so), (4, .int a), (5, .int b)] := hl
  refine lv_aload_n hx hb dX7_addEntry_0 rfl (lv_at hl 0 rfl) ?_
  refine lv_aload_n hx hb dX7_addEntry_1 rfl (lv_at hl 0 rfl) ?_
  refine lv_iload_n hx hb dX7_addEntry_2 rfl (lv_at hl 1 rfl) ?_
  refine lv_iload_n hx hb dX7_addEntry_3 rfl (lv_at hl 2 rfl) ?_
  refine x_V1 hx hb hml hown hE hS hl.1 cyX7_isStep tw936 (c_X7_isStep_0 l g h I n q hq hz x y hxb) ⟨Nat.le_of_ble_eq_true rfl, Nat.le_of_ble_eq_true rfl⟩ ⟨Nat.le_of_ble_eq_true rfl, Nat.le_of_ble_eq_true rfl⟩ (x_recv hK hH (id := [20]) (by first | trivial | (simp only [xD]; omega) | (simp [xD]; done) | (simp [xD]; omega)) (ci := 7) rfl (by decide) rfl) hH rfl rfl (Nat.le_of_ble_eq_true rfl) dX7_addEntry_4 (fun H locs hH hS => ?_)
  refine lv_if_ne (tgt := 14) hx hb dX7_addEntry_7 (by decide) (fun q_ => absurd (by decide) q_) (fun _ => ?_)
  refine lv_iconst (v := 1) hx hb dX7_addEntry_10 (by decide) ?_
  refine lv_goto (tgt := 59) hx hb dX7_addEntry_11 (by decide) ?_
  obtain ⟨I1_, hI1_⟩ : ∃ z, z = up I [20] 23 1 := ⟨_, rfl⟩
  refine x_put (C := RX7) (T := TX7) (N := 24) (ci := 7) hx hb hts iu7 tyX7 tyX7_ok nmX7 hown hK hH hS (id := [20]) (by first | trivial | (simp only [xD]; omega) | (simp [xD]; done) | (simp [xD]; omega)) rfl rfl (by decide) 23 (by decide) (hts _ tw862) (fun _ h9 => h9) (Or.inl rfl) (ty := .int) (v := .int 1) (by decide +kernel) rfl rfl (I' := I1_) (F' := (xFh h)) (fun i hi => by rw [hI1_]; exact up_id hi) (fun _ _ => rfl) (fun j9 => by rw [hI1_, up_row]; exact xv_upd (ci := 7) (k := 23) rfl j9) dX7_addEntry_59 (fun H locs hH hS => ?_)
  refine lv_aload_n hx hb dX7_addEntry_62 rfl (lv_at hl 0 rfl) ?_
  refine x_get (C := RX7) (T := TX7) (N := 24) (ci := 7) hx hb hts iu7 hown hK hH (id := [20]) (by first | trivial | (simp only [xD]; omega) | (simp [xD]; done) | (simp [xD]; omega)) rfl rfl (by decide) 23 (by decide) (hts _ tw862) (fun _ h9 => h9) rfl (v := .int 1) (congrArg Value.int (by rw [hI1_]; exact up_at)) dX7_addEntry_63 ?_
  refine lv_if_le (tgt := 73) hx hb dX7_addEntry_66 (by decide) (fun q_ => absurd q_ (by decide)) (fun _ => ?_)
  refine lv_iconst (v := 0) hx hb dX7_addEntry_69 (by decide) ?_
  refine lv_goto (tgt := 85) hx hb dX7_addEntry_70 (by decide) ?_
  exact x_iret hx hb hr hlocks hS dX7_addEntry_85 rfl (by rw [hI1_] at hH; exact hH)

set_option maxHeartbeats 1000000 in
set_option maxRecDepth 100000 in
theorem c_X7_addEntry_s (l : Launch) (g : xG) (h : xS) (I : xI) (n : Nat) (q : Nat) (hq : q ≤ 3) (hz : I [20] 10 = nI q) (p : Nat) (hp : p < q) (k : Nat) (hk : k ≤ 8) (hs : I [24, 8] p = nI k) (y : Int32) (so a b : Int32) (hy : sIn y 0 (nI k) = false) : xM l yX7_addEntry (xws yX7_addEntry cX7_addEntry 6 (some FieldType.int)) 4 77 g [.ref (ga g [20]), .int (nI p), .int y, .int so, .int a, .int b] (xR g (xD h) I (xFh h) n) (some (.int 0)) (xR g (xD h) (up I [20] 23 1) (xFh h) n) 0 0 := by
  refine xM.of (by decide) (Nat.le_of_ble_eq_true rfl) ?_
  intro P_ e_ s m_ bl_ mt_ cd_ ls hx hb hr hown hlocks hml hnm hE hK hts hH hS hl
  have hl : lv_has ls 6 [(0, .ref (ga g [20])), (1, .int (nI p)), (2, .int y), (3, .int so), (4, .int a), (5, .int b)] := hl
  refine lv_aload_n hx hb dX7_addEntry_0 rfl (lv_at hl 0 rfl) ?_
  refine lv_aload_n hx hb dX7_addEntry_1 rfl (lv_at hl 0 rfl) ?_
  refine lv_iload_n hx hb dX7_addEntry_2 rfl (lv_at hl 1 rfl) ?_
  refine lv_iload_n hx hb dX7_addEntry_3 rfl (lv_at hl 2 rfl) ?_
  refine x_V1 hx hb hml hown hE hS hl.1 cyX7_isStep tw936 (c_X7_isStep_1 l g h I n q hq hz p hp k hk hs y) ⟨Nat.le_of_ble_eq_true rfl, Nat.le_of_ble_eq_true rfl⟩ ⟨Nat.le_of_ble_eq_true rfl, Nat.le_of_ble_eq_true rfl⟩ (x_recv hK hH (id := [20]) (by first | trivial | (simp only [xD]; omega) | (simp [xD]; done) | (simp [xD]; omega)) (ci := 7) rfl (by decide) rfl) hH rfl rfl (Nat.le_of_ble_eq_true rfl) dX7_addEntry_4 (fun H locs hH hS => ?_)
  refine lv_if_ne (tgt := 14) hx hb dX7_addEntry_7 (by decide) (fun q_ => absurd q_ (fun z_ => z_ ((b01_eq0 _).mpr hy))) (fun _ => ?_)
  refine lv_iconst (v := 1) hx hb dX7_addEntry_10 (by decide) ?_
  refine lv_goto (tgt := 59) hx hb dX7_addEntry_11 (by decide) ?_
  obtain ⟨I1_, hI1_⟩ : ∃ z, z = up I [20] 23 1 := ⟨_, rfl⟩
  refine x_put (C := RX7) (T := TX7) (N := 24) (ci := 7) hx hb hts iu7 tyX7 tyX7_ok nmX7 hown hK hH hS (id := [20]) (by first | trivial | (simp only [xD]; omega) | (simp [xD]; done) | (simp [xD]; omega)) rfl rfl (by decide) 23 (by decide) (hts _ tw862) (fun _ h9 => h9) (Or.inl rfl) (ty := .int) (v := .int 1) (by decide +kernel) rfl rfl (I' := I1_) (F' := (xFh h)) (fun i hi => by rw [hI1_]; exact up_id hi) (fun _ _ => rfl) (fun j9 => by rw [hI1_, up_row]; exact xv_upd (ci := 7) (k := 23) rfl j9) dX7_addEntry_59 (fun H locs hH hS => ?_)
  refine lv_aload_n hx hb dX7_addEntry_62 rfl (lv_at hl 0 rfl) ?_
  refine x_get (C := RX7) (T := TX7) (N := 24) (ci := 7) hx hb hts iu7 hown hK hH (id := [20]) (by first | trivial | (simp only [xD]; omega) | (simp [xD]; done) | (simp [xD]; omega)) rfl rfl (by decide) 23 (by decide) (hts _ tw862) (fun _ h9 => h9) rfl (v := .int 1) (congrArg Value.int (by rw [hI1_]; exact up_at)) dX7_addEntry_63 ?_
  refine lv_if_le (tgt := 73) hx hb dX7_addEntry_66 (by decide) (fun q_ => absurd q_ (by decide)) (fun _ => ?_)
  refine lv_iconst (v := 0) hx hb dX7_addEntry_69 (by decide) ?_
  refine lv_goto (tgt := 85) hx hb dX7_addEntry_70 (by decide) ?_
  exact x_iret hx hb hr hlocks hS dX7_addEntry_85 rfl (by rw [hI1_] at hH; exact hH)

set_option maxHeartbeats 1000000 in
set_option maxRecDepth 100000 in
theorem c_X7_addEntry_d (l : Launch) (g : xG) (h : xS) (I : xI) (n : Nat) (q : Nat) (hq : q ≤ 3) (hz : I [20] 10 = nI q) (p : Nat) (hp : p < q) (k : Nat) (hk : k ≤ 8) (hs : I [24, 8] p = nI k) (j : Nat) (hj : j < k) (so a b : Int32) (hd : sCond k so a b = false) : xM l yX7_addEntry (xws yX7_addEntry cX7_addEntry 6 (some FieldType.int)) 5 101 g [.ref (ga g [20]), .int (nI p), .int (nI j), .int so, .int a, .int b] (xR g (xD h) I (xFh h) n) (some (.int 0)) (xR g (xD h) (up I [20] 23 2) (xFh h) n) 0 0 := by
  refine xM.of (by decide) (Nat.le_of_ble_eq_true rfl) ?_
  intro P_ e_ s m_ bl_ mt_ cd_ ls hx hb hr hown hlocks hml hnm hE hK hts hH hS hl
  have hl : lv_has ls 6 [(0, .ref (ga g [20])), (1, .int (nI p)), (2, .int (nI j)), (3, .int so), (4, .int a), (5, .int b)] := hl
  refine lv_aload_n hx hb dX7_addEntry_0 rfl (lv_at hl 0 rfl) ?_
  refine lv_aload_n hx hb dX7_addEntry_1 rfl (lv_at hl 0 rfl) ?_
  refine lv_iload_n hx hb dX7_addEntry_2 rfl (lv_at hl 1 rfl) ?_
  refine lv_iload_n hx hb dX7_addEntry_3 rfl (lv_at hl 2 rfl) ?_
  refine x_V1 hx hb hml hown hE hS hl.1 cyX7_isStep tw936 (c_X7_isStep_1 l g h I n q hq hz p hp k hk hs ((nI j))) ⟨Nat.le_of_ble_eq_true rfl, Nat.le_of_ble_eq_true rfl⟩ ⟨Nat.le_of_ble_eq_true rfl, Nat.le_of_ble_eq_true rfl⟩ (x_recv hK hH (id := [20]) (by first | trivial | (simp only [xD]; omega) | (simp [xD]; done) | (simp [xD]; omega)) (ci := 7) rfl (by decide) rfl) hH rfl rfl (Nat.le_of_ble_eq_true rfl) dX7_addEntry_4 (fun H locs hH hS => ?_)
  refine lv_if_ne (tgt := 14) hx hb dX7_addEntry_7 (by decide) (fun _ => ?_) (fun q_ => absurd q_ (fun z_ => by rw [sIn_nI hj (by omega)] at z_; exact absurd z_ (by decide)))
  refine lv_aload_n hx hb dX7_addEntry_14 rfl (lv_at hl 0 rfl) ?_
  refine lv_iload_n hx hb dX7_addEntry_15 rfl (lv_at hl 1 rfl) ?_
  refine lv_iload_n hx hb dX7_addEntry_16 rfl (lv_at hl 3 rfl) ?_
  refine lv_iload hx hb dX7_addEntry_17 (lv_at hl 4 rfl) ?_
  refine lv_iload hx hb dX7_addEntry_19 (lv_at hl 5 rfl) ?_
  refine x_V1 hx hb hml hown hE hS hl.1 cyX7_isCondition tw944 (c_X7_isCondition l g h I n q hq hz p hp k hk hs so a b) ⟨Nat.le_of_ble_eq_true rfl, Nat.le_of_ble_eq_true rfl⟩ ⟨Nat.le_of_ble_eq_true rfl, Nat.le_of_ble_eq_true rfl⟩ (x_recv hK hH (id := [20]) (by first | trivial | (simp only [xD]; omega) | (simp [xD]; done) | (simp [xD]; omega)) (ci := 7) rfl (by decide) rfl) hH rfl rfl (Nat.le_of_ble_eq_true rfl) dX7_addEntry_21 (fun H locs hH hS => ?_)
  refine lv_if_ne (tgt := 31) hx hb dX7_addEntry_24 (by decide) (fun q_ => absurd q_ (fun z_ => z_ ((b01_eq0 _).mpr hd))) (fun _ => ?_)
  refine lv_iconst (v := 2) hx hb dX7_addEntry_27 (by decide) ?_
  refine lv_goto (tgt := 59) hx hb dX7_addEntry_28 (by decide) ?_
  obtain ⟨I1_, hI1_⟩ : ∃ z, z = up I [20] 23 2 := ⟨_, rfl⟩
  refine x_put (C := RX7) (T := TX7) (N := 24) (ci := 7) hx hb hts iu7 tyX7 tyX7_ok nmX7 hown hK hH hS (id := [20]) (by first | trivial | (simp only [xD]; omega) | (simp [xD]; done) | (simp [xD]; omega)) rfl rfl (by decide) 23 (by decide) (hts _ tw862) (fun _ h9 => h9) (Or.inl rfl) (ty := .int) (v := .int 2) (by decide +kernel) rfl rfl (I' := I1_) (F' := (xFh h)) (fun i hi => by rw [hI1_]; exact up_id hi) (fun _ _ => rfl) (fun j9 => by rw [hI1_, up_row]; exact xv_upd (ci := 7) (k := 23) rfl j9) dX7_addEntry_59 (fun H locs hH hS => ?_)
  refine lv_aload_n hx hb dX7_addEntry_62 rfl (lv_at hl 0 rfl) ?_
  refine x_get (C := RX7) (T := TX7) (N := 24) (ci := 7) hx hb hts iu7 hown hK hH (id := [20]) (by first | trivial | (simp only [xD]; omega) | (simp [xD]; done) | (simp [xD]; omega)) rfl rfl (by decide) 23 (by decide) (hts _ tw862) (fun _ h9 => h9) rfl (v := .int 2) (congrArg Value.int (by rw [hI1_]; exact up_at)) dX7_addEntry_63 ?_
  refine lv_if_le (tgt := 73) hx hb dX7_addEntry_66 (by decide) (fun q_ => absurd q_ (by decide)) (fun _ => ?_)
  refine lv_iconst (v := 0) hx hb dX7_addEntry_69 (by decide) ?_
  refine lv_goto (tgt := 85) hx hb dX7_addEntry_70 (by decide) ?_
  exact x_iret hx hb hr hlocks hS dX7_addEntry_85 rfl (by rw [hI1_] at hH; exact hH)

set_option maxHeartbeats 1000000 in
set_option maxRecDepth 100000 in
theorem c_X7_addEntry_u (l : Launch) (g : xG) (h : xS) (I : xI) (n : Nat) (q : Nat) (hq : q ≤ 3) (hz : I [20] 10 = nI q) (p : Nat) (hp : p < q) (k : Nat) (hk : k ≤ 8) (hs : I [24, 8] p = nI k) (j : Nat) (hj : j < k) (so a b : Int32) (hd : sCond k so a b = true) (hu : ¬ I [24, 9] p = 0) : xM l yX7_addEntry (xws yX7_addEntry cX7_addEntry 6 (some FieldType.int)) 5 101 g [.ref (ga g [20]), .int (nI p), .int (nI j), .int so, .int a, .int b] (xR g (xD h) I (xFh h) n) (some (.int 0)) (xR g (xD h) (up I [20] 23 3) (xFh h) n) 0 0 := by
  refine xM.of (by decide) (Nat.le_of_ble_eq_true rfl) ?_
  intro P_ e_ s m_ bl_ mt_ cd_ ls hx hb hr hown hlocks hml hnm hE hK hts hH hS hl
  have hl : lv_has ls 6 [(0, .ref (ga g [20])), (1, .int (nI p)), (2, .int (nI j)), (3, .int so), (4, .int a), (5, .int b)] := hl
  refine lv_aload_n hx hb dX7_addEntry_0 rfl (lv_at hl 0 rfl) ?_
  refine lv_aload_n hx hb dX7_addEntry_1 rfl (lv_at hl 0 rfl) ?_
  refine lv_iload_n hx hb dX7_addEntry_2 rfl (lv_at hl 1 rfl) ?_
  refine lv_iload_n hx hb dX7_addEntry_3 rfl (lv_at hl 2 rfl) ?_
  refine x_V1 hx hb hml hown hE hS hl.1 cyX7_isStep tw936 (c_X7_isStep_1 l g h I n q hq hz p hp k hk hs ((nI j))) ⟨Nat.le_of_ble_eq_true rfl, Nat.le_of_ble_eq_true rfl⟩ ⟨Nat.le_of_ble_eq_true rfl, Nat.le_of_ble_eq_true rfl⟩ (x_recv hK hH (id := [20]) (by first | trivial | (simp only [xD]; omega) | (simp [xD]; done) | (simp [xD]; omega)) (ci := 7) rfl (by decide) rfl) hH rfl rfl (Nat.le_of_ble_eq_true rfl) dX7_addEntry_4 (fun H locs hH hS => ?_)
  refine lv_if_ne (tgt := 14) hx hb dX7_addEntry_7 (by decide) (fun _ => ?_) (fun q_ => absurd q_ (fun z_ => by rw [sIn_nI hj (by omega)] at z_; exact absurd z_ (by decide)))
  refine lv_aload_n hx hb dX7_addEntry_14 rfl (lv_at hl 0 rfl) ?_
  refine lv_iload_n hx hb dX7_addEntry_15 rfl (lv_at hl 1 rfl) ?_
  refine lv_iload_n hx hb dX7_addEntry_16 rfl (lv_at hl 3 rfl) ?_
  refine lv_iload hx hb dX7_addEntry_17 (lv_at hl 4 rfl) ?_
  refine lv_iload hx hb dX7_addEntry_19 (lv_at hl 5 rfl) ?_
  refine x_V1 hx hb hml hown hE hS hl.1 cyX7_isCondition tw944 (c_X7_isCondition l g h I n q hq hz p hp k hk hs so a b) ⟨Nat.le_of_ble_eq_true rfl, Nat.le_of_ble_eq_true rfl⟩ ⟨Nat.le_of_ble_eq_true rfl, Nat.le_of_ble_eq_true rfl⟩ (x_recv hK hH (id := [20]) (by first | trivial | (simp only [xD]; omega) | (simp [xD]; done) | (simp [xD]; omega)) (ci := 7) rfl (by decide) rfl) hH rfl rfl (Nat.le_of_ble_eq_true rfl) dX7_addEntry_21 (fun H locs hH hS => ?_)
  refine lv_if_ne (tgt := 31) hx hb dX7_addEntry_24 (by decide) (fun _ => ?_) (fun q_ => absurd q_ (fun z_ => by rw [hd] at z_; exact absurd z_ (by decide)))
  refine lv_aload_n hx hb dX7_addEntry_31 rfl (lv_at hl 0 rfl) ?_
  refine x_get (C := RX7) (T := TX7) (N := 24) (ci := 7) hx hb hts iu7 hown hK hH (id := [20]) (by first | trivial | (simp only [xD]; omega) | (simp [xD]; done) | (simp [xD]; omega)) rfl rfl (by decide) 9 (by decide) (hts _ tw848) (fun _ h9 => h9) rfl (v := .ref (ga g [24, 9])) rfl dX7_addEntry_32 ?_
  refine lv_iload_n hx hb dX7_addEntry_35 rfl (lv_at hl 1 rfl) ?_
  refine x_bald hx hb hK hH (id := [24, 9]) (by first | trivial | (simp only [xD]; omega) | (simp [xD]; done) | (simp [xD]; omega)) (L := 3) rfl rfl p rfl (by omega) (by decide) dX7_addEntry_36 ?_
  refine lv_if_ne (tgt := 54) hx hb dX7_addEntry_37 (by decide) (fun _ => ?_) (fun q_ => absurd q_ hu)
  refine lv_iconst (v := 3) hx hb dX7_addEntry_54 (by decide) ?_
  refine lv_goto (tgt := 59) hx hb dX7_addEntry_55 (by decide) ?_
  obtain ⟨I1_, hI1_⟩ : ∃ z, z = up I [20] 23 3 := ⟨_, rfl⟩
  refine x_put (C := RX7) (T := TX7) (N := 24) (ci := 7) hx hb hts iu7 tyX7 tyX7_ok nmX7 hown hK hH hS (id := [20]) (by first | trivial | (simp only [xD]; omega) | (simp [xD]; done) | (simp [xD]; omega)) rfl rfl (by decide) 23 (by decide) (hts _ tw862) (fun _ h9 => h9) (Or.inl rfl) (ty := .int) (v := .int 3) (by decide +kernel) rfl rfl (I' := I1_) (F' := (xFh h)) (fun i hi => by rw [hI1_]; exact up_id hi) (fun _ _ => rfl) (fun j9 => by rw [hI1_, up_row]; exact xv_upd (ci := 7) (k := 23) rfl j9) dX7_addEntry_59 (fun H locs hH hS => ?_)
  refine lv_aload_n hx hb dX7_addEntry_62 rfl (lv_at hl 0 rfl) ?_
  refine x_get (C := RX7) (T := TX7) (N := 24) (ci := 7) hx hb hts iu7 hown hK hH (id := [20]) (by first | trivial | (simp only [xD]; omega) | (simp [xD]; done) | (simp [xD]; omega)) rfl rfl (by decide) 23 (by decide) (hts _ tw862) (fun _ h9 => h9) rfl (v := .int 3) (congrArg Value.int (by rw [hI1_]; exact up_at)) dX7_addEntry_63 ?_
  refine lv_if_le (tgt := 73) hx hb dX7_addEntry_66 (by decide) (fun q_ => absurd q_ (by decide)) (fun _ => ?_)
  refine lv_iconst (v := 0) hx hb dX7_addEntry_69 (by decide) ?_
  refine lv_goto (tgt := 85) hx hb dX7_addEntry_70 (by decide) ?_
  exact x_iret hx hb hr hlocks hS dX7_addEntry_85 rfl (by rw [hI1_] at hH; exact hH)

set_option maxHeartbeats 1000000 in
set_option maxRecDepth 100000 in
theorem c_X7_addEntry_f (l : Launch) (g : xG) (h : xS) (I : xI) (n : Nat) (q : Nat) (hq : q ≤ 3) (hz : I [20] 10 = nI q) (p : Nat) (hp : p < q) (k : Nat) (hk : k ≤ 8) (hs : I [24, 8] p = nI k) (j : Nat) (hj : j < k) (so a b : Int32) (hd : sCond k so a b = true) (hu : I [24, 9] p = 0) (m : Nat) (hmm : I [23, 7, p, j] 0 = nI m) (hm3 : m = 3) : xM l yX7_addEntry (xws yX7_addEntry cX7_addEntry 6 (some FieldType.int)) 5 101 g [.ref (ga g [20]), .int (nI p), .int (nI j), .int so, .int a, .int b] (xR g (xD h) I (xFh h) n) (some (.int 0)) (xR g (xD h) (up I [20] 23 3) (xFh h) n) 0 0 := by
  refine xM.of (by decide) (Nat.le_of_ble_eq_true rfl) ?_
  intro P_ e_ s m_ bl_ mt_ cd_ ls hx hb hr hown hlocks hml hnm hE hK hts hH hS hl
  have hl : lv_has ls 6 [(0, .ref (ga g [20])), (1, .int (nI p)), (2, .int (nI j)), (3, .int so), (4, .int a), (5, .int b)] := hl
  refine lv_aload_n hx hb dX7_addEntry_0 rfl (lv_at hl 0 rfl) ?_
  refine lv_aload_n hx hb dX7_addEntry_1 rfl (lv_at hl 0 rfl) ?_
  refine lv_iload_n hx hb dX7_addEntry_2 rfl (lv_at hl 1 rfl) ?_
  refine lv_iload_n hx hb dX7_addEntry_3 rfl (lv_at hl 2 rfl) ?_
  refine x_V1 hx hb hml hown hE hS hl.1 cyX7_isStep tw936 (c_X7_isStep_1 l g h I n q hq hz p hp k hk hs ((nI j))) ⟨Nat.le_of_ble_eq_true rfl, Nat.le_of_ble_eq_true rfl⟩ ⟨Nat.le_of_ble_eq_true rfl, Nat.le_of_ble_eq_true rfl⟩ (x_recv hK hH (id := [20]) (by first | trivial | (simp only [xD]; omega) | (simp [xD]; done) | (simp [xD]; omega)) (ci := 7) rfl (by decide) rfl) hH rfl rfl (Nat.le_of_ble_eq_true rfl) dX7_addEntry_4 (fun H locs hH hS => ?_)
  refine lv_if_ne (tgt := 14) hx hb dX7_addEntry_7 (by decide) (fun _ => ?_) (fun q_ => absurd q_ (fun z_ => by rw [sIn_nI hj (by omega)] at z_; exact absurd z_ (by decide)))
  refine lv_aload_n hx hb dX7_addEntry_14 rfl (lv_at hl 0 rfl) ?_
  refine lv_iload_n hx hb dX7_addEntry_15 rfl (lv_at hl 1 rfl) ?_
  refine lv_iload_n hx hb dX7_addEntry_16 rfl (lv_at hl 3 rfl) ?_
  refine lv_iload hx hb dX7_addEntry_17 (lv_at hl 4 rfl) ?_
  refine lv_iload hx hb dX7_addEntry_19 (lv_at hl 5 rfl) ?_
  refine x_V1 hx hb hml hown hE hS hl.1 cyX7_isCondition tw944 (c_X7_isCondition l g h I n q hq hz p hp k hk hs so a b) ⟨Nat.le_of_ble_eq_true rfl, Nat.le_of_ble_eq_true rfl⟩ ⟨Nat.le_of_ble_eq_true rfl, Nat.le_of_ble_eq_true rfl⟩ (x_recv hK hH (id := [20]) (by first | trivial | (simp only [xD]; omega) | (simp [xD]; done) | (simp [xD]; omega)) (ci := 7) rfl (by decide) rfl) hH rfl rfl (Nat.le_of_ble_eq_true rfl) dX7_addEntry_21 (fun H locs hH hS => ?_)
  refine lv_if_ne (tgt := 31) hx hb dX7_addEntry_24 (by decide) (fun _ => ?_) (fun q_ => absurd q_ (fun z_ => by rw [hd] at z_; exact absurd z_ (by decide)))
  refine lv_aload_n hx hb dX7_addEntry_31 rfl (lv_at hl 0 rfl) ?_
  refine x_get (C := RX7) (T := TX7) (N := 24) (ci := 7) hx hb hts iu7 hown hK hH (id := [20]) (by first | trivial | (simp only [xD]; omega) | (simp [xD]; done) | (simp [xD]; omega)) rfl rfl (by decide) 9 (by decide) (hts _ tw848) (fun _ h9 => h9) rfl (v := .ref (ga g [24, 9])) rfl dX7_addEntry_32 ?_
  refine lv_iload_n hx hb dX7_addEntry_35 rfl (lv_at hl 1 rfl) ?_
  refine x_bald hx hb hK hH (id := [24, 9]) (by first | trivial | (simp only [xD]; omega) | (simp [xD]; done) | (simp [xD]; omega)) (L := 3) rfl rfl p rfl (by omega) (by decide) dX7_addEntry_36 ?_
  refine lv_if_ne (tgt := 54) hx hb dX7_addEntry_37 (by decide) (fun q_ => absurd q_ (fun z_ => z_ hu)) (fun _ => ?_)
  refine lv_aload_n hx hb dX7_addEntry_40 rfl (lv_at hl 0 rfl) ?_
  refine x_get (C := RX7) (T := TX7) (N := 24) (ci := 7) hx hb hts iu7 hown hK hH (id := [20]) (by first | trivial | (simp only [xD]; omega) | (simp [xD]; done) | (simp [xD]; omega)) rfl rfl (by decide) 7 (by decide) (hts _ tw846) (fun _ h9 => h9) rfl (v := .ref (ga g [21, 7])) rfl dX7_addEntry_41 ?_
  refine lv_iload_n hx hb dX7_addEntry_44 rfl (lv_at hl 1 rfl) ?_
  refine x_aald hx hb hK hH (id := [21, 7]) (by first | trivial | (simp only [xD]; omega) | (simp [xD]; done) | (simp [xD]; omega)) 10 (L := 3) rfl (by decide) p rfl (by omega) (by decide) (v := .ref (ga g [22, 7, p])) (by show rq _ (if _ then _ else _) = _; rw [if_pos (show p < xLn 7 by show _ < 3; omega)]; rfl) dX7_addEntry_45 ?_
  refine lv_iload_n hx hb dX7_addEntry_46 rfl (lv_at hl 2 rfl) ?_
  refine x_aald hx hb hK hH (id := [22, 7, p]) (by first | trivial | (simp only [xD]; omega) | (simp [xD]; done) | (simp [xD]; omega)) 7 (L := 8) rfl (by decide) j rfl (by omega) (by decide) (v := .ref (ga g [23, 7, p, j])) (by show rq _ (if _ then _ else _) = _; rw [if_pos (by omega)]; rfl) dX7_addEntry_47 ?_
  refine lv_iconst (v := 0) hx hb dX7_addEntry_48 (by decide) ?_
  refine x_iald hx hb hK hH (id := [23, 7, p, j]) (by first | trivial | (simp only [xD]; omega) | (simp [xD]; done) | (simp [xD]; omega)) (L := 2) rfl rfl 0 (by rfl) (by omega) (by decide) dX7_addEntry_49 ?_
  rw [show (I [23, 7, p, j] 0) = (nI m) from (hmm)]
  refine lv_iconst (v := 3) hx hb dX7_addEntry_50 (by decide) ?_
  refine lv_icmp_ne (tgt := 58) hx hb dX7_addEntry_51 (by decide) (fun q_ => absurd q_ (fun z_ => z_ ((nI_eq (a := m) (b := 3) (by omega) (by omega)).mpr (by omega)))) (fun _ => ?_)
  refine lv_iconst (v := 3) hx hb dX7_addEntry_54 (by decide) ?_
  refine lv_goto (tgt := 59) hx hb dX7_addEntry_55 (by decide) ?_
  obtain ⟨I1_, hI1_⟩ : ∃ z, z = up I [20] 23 3 := ⟨_, rfl⟩
  refine x_put (C := RX7) (T := TX7) (N := 24) (ci := 7) hx hb hts iu7 tyX7 tyX7_ok nmX7 hown hK hH hS (id := [20]) (by first | trivial | (simp only [xD]; omega) | (simp [xD]; done) | (simp [xD]; omega)) rfl rfl (by decide) 23 (by decide) (hts _ tw862) (fun _ h9 => h9) (Or.inl rfl) (ty := .int) (v := .int 3) (by decide +kernel) rfl rfl (I' := I1_) (F' := (xFh h)) (fun i hi => by rw [hI1_]; exact up_id hi) (fun _ _ => rfl) (fun j9 => by rw [hI1_, up_row]; exact xv_upd (ci := 7) (k := 23) rfl j9) dX7_addEntry_59 (fun H locs hH hS => ?_)
  refine lv_aload_n hx hb dX7_addEntry_62 rfl (lv_at hl 0 rfl) ?_
  refine x_get (C := RX7) (T := TX7) (N := 24) (ci := 7) hx hb hts iu7 hown hK hH (id := [20]) (by first | trivial | (simp only [xD]; omega) | (simp [xD]; done) | (simp [xD]; omega)) rfl rfl (by decide) 23 (by decide) (hts _ tw862) (fun _ h9 => h9) rfl (v := .int 3) (congrArg Value.int (by rw [hI1_]; exact up_at)) dX7_addEntry_63 ?_
  refine lv_if_le (tgt := 73) hx hb dX7_addEntry_66 (by decide) (fun q_ => absurd q_ (by decide)) (fun _ => ?_)
  refine lv_iconst (v := 0) hx hb dX7_addEntry_69 (by decide) ?_
  refine lv_goto (tgt := 85) hx hb dX7_addEntry_70 (by decide) ?_
  exact x_iret hx hb hr hlocks hS dX7_addEntry_85 rfl (by rw [hI1_] at hH; exact hH)

set_option maxHeartbeats 1000000 in
set_option maxRecDepth 100000 in
theorem c_X7_addEntry (l : Launch) (g : xG) (h : xS) (I : xI) (n : Nat) (q : Nat) (hq : q ≤ 3) (hz : I [20] 10 = nI q) (p : Nat) (hp : p < q) (k : Nat) (hk : k ≤ 8) (hs : I [24, 8] p = nI k) (j : Nat) (hj : j < k) (so a b : Int32) (hd : sCond k so a b = true) (hu : I [24, 9] p = 0) (m : Nat) (hmm : I [23, 7, p, j] 0 = nI m) (hm3 : m < 3) (hsc : narrow .char (.int so) = .int so) : xM l yX7_addEntry (xws yX7_addEntry cX7_addEntry 6 (some FieldType.int)) 5 101 g [.ref (ga g [20]), .int (nI p), .int (nI j), .int so, .int a, .int b] (xR g (xD h) I (xFh h) n) (some (.int (nI (m + 1)))) (xR g (xD h) (mAdd (up I [20] 23 0) p j 0 m so a b) (xFh h) n) 0 0 := by
  refine xM.of (by decide) (Nat.le_of_ble_eq_true rfl) ?_
  intro P_ e_ s m_ bl_ mt_ cd_ ls hx hb hr hown hlocks hml hnm hE hK hts hH hS hl
  have hl : lv_has ls 6 [(0, .ref (ga g [20])), (1, .int (nI p)), (2, .int (nI j)), (3, .int so), (4, .int a), (5, .int b)] := hl
  refine lv_aload_n hx hb dX7_addEntry_0 rfl (lv_at hl 0 rfl) ?_
  refine lv_aload_n hx hb dX7_addEntry_1 rfl (lv_at hl 0 rfl) ?_
  refine lv_iload_n hx hb dX7_addEntry_2 rfl (lv_at hl 1 rfl) ?_
  refine lv_iload_n hx hb dX7_addEntry_3 rfl (lv_at hl 2 rfl) ?_
  refine x_V1 hx hb hml hown hE hS hl.1 cyX7_isStep tw936 (c_X7_isStep_1 l g h I n q hq hz p hp k hk hs ((nI j))) ⟨Nat.le_of_ble_eq_true rfl, Nat.le_of_ble_eq_true rfl⟩ ⟨Nat.le_of_ble_eq_true rfl, Nat.le_of_ble_eq_true rfl⟩ (x_recv hK hH (id := [20]) (by first | trivial | (simp only [xD]; omega) | (simp [xD]; done) | (simp [xD]; omega)) (ci := 7) rfl (by decide) rfl) hH rfl rfl (Nat.le_of_ble_eq_true rfl) dX7_addEntry_4 (fun H locs hH hS => ?_)
  refine lv_if_ne (tgt := 14) hx hb dX7_addEntry_7 (by decide) (fun _ => ?_) (fun q_ => absurd q_ (fun z_ => by rw [sIn_nI hj (by omega)] at z_; exact absurd z_ (by decide)))
  refine lv_aload_n hx hb dX7_addEntry_14 rfl (lv_at hl 0 rfl) ?_
  refine lv_iload_n hx hb dX7_addEntry_15 rfl (lv_at hl 1 rfl) ?_
  refine lv_iload_n hx hb dX7_addEntry_16 rfl (lv_at hl 3 rfl) ?_
  refine lv_iload hx hb dX7_addEntry_17 (lv_at hl 4 rfl) ?_
  refine lv_iload hx hb dX7_addEntry_19 (lv_at hl 5 rfl) ?_
  refine x_V1 hx hb hml hown hE hS hl.1 cyX7_isCondition tw944 (c_X7_isCondition l g h I n q hq hz p hp k hk hs so a b) ⟨Nat.le_of_ble_eq_true rfl, Nat.le_of_ble_eq_true rfl⟩ ⟨Nat.le_of_ble_eq_true rfl, Nat.le_of_ble_eq_true rfl⟩ (x_recv hK hH (id := [20]) (by first | trivial | (simp only [xD]; omega) | (simp [xD]; done) | (simp [xD]; omega)) (ci := 7) rfl (by decide) rfl) hH rfl rfl (Nat.le_of_ble_eq_true rfl) dX7_addEntry_21 (fun H locs hH hS => ?_)
  refine lv_if_ne (tgt := 31) hx hb dX7_addEntry_24 (by decide) (fun _ => ?_) (fun q_ => absurd q_ (fun z_ => by rw [hd] at z_; exact absurd z_ (by decide)))
  refine lv_aload_n hx hb dX7_addEntry_31 rfl (lv_at hl 0 rfl) ?_
  refine x_get (C := RX7) (T := TX7) (N := 24) (ci := 7) hx hb hts iu7 hown hK hH (id := [20]) (by first | trivial | (simp only [xD]; omega) | (simp [xD]; done) | (simp [xD]; omega)) rfl rfl (by decide) 9 (by decide) (hts _ tw848) (fun _ h9 => h9) rfl (v := .ref (ga g [24, 9])) rfl dX7_addEntry_32 ?_
  refine lv_iload_n hx hb dX7_addEntry_35 rfl (lv_at hl 1 rfl) ?_
  refine x_bald hx hb hK hH (id := [24, 9]) (by first | trivial | (simp only [xD]; omega) | (simp [xD]; done) | (simp [xD]; omega)) (L := 3) rfl rfl p rfl (by omega) (by decide) dX7_addEntry_36 ?_
  refine lv_if_ne (tgt := 54) hx hb dX7_addEntry_37 (by decide) (fun q_ => absurd q_ (fun z_ => z_ hu)) (fun _ => ?_)
  refine lv_aload_n hx hb dX7_addEntry_40 rfl (lv_at hl 0 rfl) ?_
  refine x_get (C := RX7) (T := TX7) (N := 24) (ci := 7) hx hb hts iu7 hown hK hH (id := [20]) (by first | trivial | (simp only [xD]; omega) | (simp [xD]; done) | (simp [xD]; omega)) rfl rfl (by decide) 7 (by decide) (hts _ tw846) (fun _ h9 => h9) rfl (v := .ref (ga g [21, 7])) rfl dX7_addEntry_41 ?_
  refine lv_iload_n hx hb dX7_addEntry_44 rfl (lv_at hl 1 rfl) ?_
  refine x_aald hx hb hK hH (id := [21, 7]) (by first | trivial | (simp only [xD]; omega) | (simp [xD]; done) | (simp [xD]; omega)) 10 (L := 3) rfl (by decide) p rfl (by omega) (by decide) (v := .ref (ga g [22, 7, p])) (by show rq _ (if _ then _ else _) = _; rw [if_pos (show p < xLn 7 by show _ < 3; omega)]; rfl) dX7_addEntry_45 ?_
  refine lv_iload_n hx hb dX7_addEntry_46 rfl (lv_at hl 2 rfl) ?_
  refine x_aald hx hb hK hH (id := [22, 7, p]) (by first | trivial | (simp only [xD]; omega) | (simp [xD]; done) | (simp [xD]; omega)) 7 (L := 8) rfl (by decide) j rfl (by omega) (by decide) (v := .ref (ga g [23, 7, p, j])) (by show rq _ (if _ then _ else _) = _; rw [if_pos (by omega)]; rfl) dX7_addEntry_47 ?_
  refine lv_iconst (v := 0) hx hb dX7_addEntry_48 (by decide) ?_
  refine x_iald hx hb hK hH (id := [23, 7, p, j]) (by first | trivial | (simp only [xD]; omega) | (simp [xD]; done) | (simp [xD]; omega)) (L := 2) rfl rfl 0 (by rfl) (by omega) (by decide) dX7_addEntry_49 ?_
  rw [show (I [23, 7, p, j] 0) = (nI m) from (hmm)]
  refine lv_iconst (v := 3) hx hb dX7_addEntry_50 (by decide) ?_
  refine lv_icmp_ne (tgt := 58) hx hb dX7_addEntry_51 (by decide) (fun _ => ?_) (fun q_ => absurd q_ (fun z_ => absurd ((nI_eq (a := m) (b := 3) (by omega) (by omega)).mp z_) (by omega)))
  refine lv_iconst (v := 0) hx hb dX7_addEntry_58 (by decide) ?_
  obtain ⟨I1_, hI1_⟩ : ∃ z, z = up I [20] 23 0 := ⟨_, rfl⟩
  refine x_put (C := RX7) (T := TX7) (N := 24) (ci := 7) hx hb hts iu7 tyX7 tyX7_ok nmX7 hown hK hH hS (id := [20]) (by first | trivial | (simp only [xD]; omega) | (simp [xD]; done) | (simp [xD]; omega)) rfl rfl (by decide) 23 (by decide) (hts _ tw862) (fun _ h9 => h9) (Or.inl rfl) (ty := .int) (v := .int 0) (by decide +kernel) rfl rfl (I' := I1_) (F' := (xFh h)) (fun i hi => by rw [hI1_]; exact up_id hi) (fun _ _ => rfl) (fun j9 => by rw [hI1_, up_row]; exact xv_upd (ci := 7) (k := 23) rfl j9) dX7_addEntry_59 (fun H locs hH hS => ?_)
  refine lv_aload_n hx hb dX7_addEntry_62 rfl (lv_at hl 0 rfl) ?_
  refine x_get (C := RX7) (T := TX7) (N := 24) (ci := 7) hx hb hts iu7 hown hK hH (id := [20]) (by first | trivial | (simp only [xD]; omega) | (simp [xD]; done) | (simp [xD]; omega)) rfl rfl (by decide) 23 (by decide) (hts _ tw862) (fun _ h9 => h9) rfl (v := .int 0) (congrArg Value.int (by rw [hI1_]; exact up_at)) dX7_addEntry_63 ?_
  refine lv_if_le (tgt := 73) hx hb dX7_addEntry_66 (by decide) (fun _ => ?_) (fun q_ => absurd (by decide) q_)
  refine lv_aload_n hx hb dX7_addEntry_73 rfl (lv_at hl 0 rfl) ?_
  refine lv_iload_n hx hb dX7_addEntry_74 rfl (lv_at hl 1 rfl) ?_
  refine lv_iload_n hx hb dX7_addEntry_75 rfl (lv_at hl 2 rfl) ?_
  refine lv_iconst (v := 0) hx hb dX7_addEntry_76 (by decide) ?_
  refine lv_iload_n hx hb dX7_addEntry_77 rfl (lv_at hl 3 rfl) ?_
  refine lv_iload hx hb dX7_addEntry_78 (lv_at hl 4 rfl) ?_
  refine lv_iload hx hb dX7_addEntry_80 (lv_at hl 5 rfl) ?_
  refine x_V1 hx hb hml hown hE hS hl.1 cyX7_adds tw948 (c_X7_adds_0 l g h I1_ n p j m (by omega) (by omega) hm3 (by first | (rw [hI1_]; simp [up]; done) | (rw [hI1_]; simp [up]; exact hmm) | (rw [hI1_]; simp [up, hmm]; done)) so a b hsc) ⟨Nat.le_of_ble_eq_true rfl, Nat.le_of_ble_eq_true rfl⟩ ⟨Nat.le_of_ble_eq_true rfl, Nat.le_of_ble_eq_true rfl⟩ (x_recv hK hH (id := [20]) (by first | trivial | (simp only [xD]; omega) | (simp [xD]; done) | (simp [xD]; omega)) (ci := 7) rfl (by decide) rfl) hH rfl rfl (Nat.le_of_ble_eq_true rfl) dX7_addEntry_82 (fun H locs hH hS => ?_)
  exact x_iret hx hb hr hlocks hS dX7_addEntry_85 rfl (by rw [hI1_] at hH; exact hH)

set_option maxHeartbeats 1000000 in
set_option maxRecDepth 100000 in
theorem c_X7_addExit_p (l : Launch) (g : xG) (h : xS) (I : xI) (n : Nat) (q : Nat) (hq : q ≤ 3) (hz : I [20] 10 = nI q) (x y : Int32) (so a b : Int32) (hxb : sIn x 0 (nI q) = false) : xM l yX7_addExit (xws yX7_addExit cX7_addExit 6 (some FieldType.int)) 4 77 g [.ref (ga g [20]), .int x, .int y, .int so, .int a, .int b] (xR g (xD h) I (xFh h) n) (some (.int 0)) (xR g (xD h) (up I [20] 23 1) (xFh h) n) 0 0 := by
  refine xM.of (by decide) (Nat.le_of_ble_eq_true rfl) ?_
  intro P_ e_ s m_ bl_ mt_ cd_ ls hx hb hr hown hlocks hml hnm hE hK hts hH hS hl
  have hl : lv_has ls 6 [(0, .ref (ga g [20])), (1, .int x), (2, .int y), (3, .int so), (4, .int a), (5, .int b)] := hl
  refine lv_aload_n hx hb dX7_addExit_0 rfl (lv_at hl 0 rfl) ?_
  refine lv_aload_n hx hb dX7_addExit_1 rfl (lv_at hl 0 rfl) ?_
  refine lv_iload_n hx hb dX7_addExit_2 rfl (lv_at hl 1 rfl) ?_
  refine lv_iload_n hx hb dX7_addExit_3 rfl (lv_at hl 2 rfl) ?_
  refine x_V1 hx hb hml hown hE hS hl.1 cyX7_isStep tw936 (c_X7_isStep_0 l g h I n q hq hz x y hxb) ⟨Nat.le_of_ble_eq_true rfl, Nat.le_of_ble_eq_true rfl⟩ ⟨Nat.le_of_ble_eq_true rfl, Nat.le_of_ble_eq_true rfl⟩ (x_recv hK hH (id := [20]) (by first | trivial | (simp only [xD]; omega) | (simp [xD]; done) | (simp [xD]; omega)) (ci := 7) rfl (by decide) rfl) hH rfl rfl (Nat.le_of_ble_eq_true rfl) dX7_addExit_4 (fun H locs hH hS => ?_)
  refine lv_if_ne (tgt := 14) hx hb dX7_addExit_7 (by decide) (fun q_ => absurd (by decide) q_) (fun _ => ?_)
  refine lv_iconst (v := 1) hx hb dX7_addExit_10 (by decide) ?_
  refine lv_goto (tgt := 76) hx hb dX7_addExit_11 (by decide) ?_
  obtain ⟨I1_, hI1_⟩ : ∃ z, z = up I [20] 23 1 := ⟨_, rfl⟩
  refine x_put (C := RX7) (T := TX7) (N := 24) (ci := 7) hx hb hts iu7 tyX7 tyX7_ok nmX7 hown hK hH hS (id := [20]) (by first | trivial | (simp only [xD]; omega) | (simp [xD]; done) | (simp [xD]; omega)) rfl rfl (by decide) 23 (by decide) (hts _ tw862) (fun _ h9 => h9) (Or.inl rfl) (ty := .int) (v := .int 1) (by decide +kernel) rfl rfl (I' := I1_) (F' := (xFh h)) (fun i hi => by rw [hI1_]; exact up_id hi) (fun _ _ => rfl) (fun j9 => by rw [hI1_, up_row]; exact xv_upd (ci := 7) (k := 23) rfl j9) dX7_addExit_76 (fun H locs hH hS => ?_)
  refine lv_aload_n hx hb dX7_addExit_79 rfl (lv_at hl 0 rfl) ?_
  refine x_get (C := RX7) (T := TX7) (N := 24) (ci := 7) hx hb hts iu7 hown hK hH (id := [20]) (by first | trivial | (simp only [xD]; omega) | (simp [xD]; done) | (simp [xD]; omega)) rfl rfl (by decide) 23 (by decide) (hts _ tw862) (fun _ h9 => h9) rfl (v := .int 1) (congrArg Value.int (by rw [hI1_]; exact up_at)) dX7_addExit_80 ?_
  refine lv_if_le (tgt := 90) hx hb dX7_addExit_83 (by decide) (fun q_ => absurd q_ (by decide)) (fun _ => ?_)
  refine lv_iconst (v := 0) hx hb dX7_addExit_86 (by decide) ?_
  refine lv_goto (tgt := 102) hx hb dX7_addExit_87 (by decide) ?_
  exact x_iret hx hb hr hlocks hS dX7_addExit_102 rfl (by rw [hI1_] at hH; exact hH)

set_option maxHeartbeats 1000000 in
set_option maxRecDepth 100000 in
theorem c_X7_addExit_s (l : Launch) (g : xG) (h : xS) (I : xI) (n : Nat) (q : Nat) (hq : q ≤ 3) (hz : I [20] 10 = nI q) (p : Nat) (hp : p < q) (k : Nat) (hk : k ≤ 8) (hs : I [24, 8] p = nI k) (y : Int32) (so a b : Int32) (hy : sIn y 0 (nI k) = false) : xM l yX7_addExit (xws yX7_addExit cX7_addExit 6 (some FieldType.int)) 4 77 g [.ref (ga g [20]), .int (nI p), .int y, .int so, .int a, .int b] (xR g (xD h) I (xFh h) n) (some (.int 0)) (xR g (xD h) (up I [20] 23 1) (xFh h) n) 0 0 := by
  refine xM.of (by decide) (Nat.le_of_ble_eq_true rfl) ?_
  intro P_ e_ s m_ bl_ mt_ cd_ ls hx hb hr hown hlocks hml hnm hE hK hts hH hS hl
  have hl : lv_has ls 6 [(0, .ref (ga g [20])), (1, .int (nI p)), (2, .int y), (3, .int so), (4, .int a), (5, .int b)] := hl
  refine lv_aload_n hx hb dX7_addExit_0 rfl (lv_at hl 0 rfl) ?_
  refine lv_aload_n hx hb dX7_addExit_1 rfl (lv_at hl 0 rfl) ?_
  refine lv_iload_n hx hb dX7_addExit_2 rfl (lv_at hl 1 rfl) ?_
  refine lv_iload_n hx hb dX7_addExit_3 rfl (lv_at hl 2 rfl) ?_
  refine x_V1 hx hb hml hown hE hS hl.1 cyX7_isStep tw936 (c_X7_isStep_1 l g h I n q hq hz p hp k hk hs y) ⟨Nat.le_of_ble_eq_true rfl, Nat.le_of_ble_eq_true rfl⟩ ⟨Nat.le_of_ble_eq_true rfl, Nat.le_of_ble_eq_true rfl⟩ (x_recv hK hH (id := [20]) (by first | trivial | (simp only [xD]; omega) | (simp [xD]; done) | (simp [xD]; omega)) (ci := 7) rfl (by decide) rfl) hH rfl rfl (Nat.le_of_ble_eq_true rfl) dX7_addExit_4 (fun H locs hH hS => ?_)
  refine lv_if_ne (tgt := 14) hx hb dX7_addExit_7 (by decide) (fun q_ => absurd q_ (fun z_ => z_ ((b01_eq0 _).mpr hy))) (fun _ => ?_)
  refine lv_iconst (v := 1) hx hb dX7_addExit_10 (by decide) ?_
  refine lv_goto (tgt := 76) hx hb dX7_addExit_11 (by decide) ?_
  obtain ⟨I1_, hI1_⟩ : ∃ z, z = up I [20] 23 1 := ⟨_, rfl⟩
  refine x_put (C := RX7) (T := TX7) (N := 24) (ci := 7) hx hb hts iu7 tyX7 tyX7_ok nmX7 hown hK hH hS (id := [20]) (by first | trivial | (simp only [xD]; omega) | (simp [xD]; done) | (simp [xD]; omega)) rfl rfl (by decide) 23 (by decide) (hts _ tw862) (fun _ h9 => h9) (Or.inl rfl) (ty := .int) (v := .int 1) (by decide +kernel) rfl rfl (I' := I1_) (F' := (xFh h)) (fun i hi => by rw [hI1_]; exact up_id hi) (fun _ _ => rfl) (fun j9 => by rw [hI1_, up_row]; exact xv_upd (ci := 7) (k := 23) rfl j9) dX7_addExit_76 (fun H locs hH hS => ?_)
  refine lv_aload_n hx hb dX7_addExit_79 rfl (lv_at hl 0 rfl) ?_
  refine x_get (C := RX7) (T := TX7) (N := 24) (ci := 7) hx hb hts iu7 hown hK hH (id := [20]) (by first | trivial | (simp only [xD]; omega) | (simp [xD]; done) | (simp [xD]; omega)) rfl rfl (by decide) 23 (by decide) (hts _ tw862) (fun _ h9 => h9) rfl (v := .int 1) (congrArg Value.int (by rw [hI1_]; exact up_at)) dX7_addExit_80 ?_
  refine lv_if_le (tgt := 90) hx hb dX7_addExit_83 (by decide) (fun q_ => absurd q_ (by decide)) (fun _ => ?_)
  refine lv_iconst (v := 0) hx hb dX7_addExit_86 (by decide) ?_
  refine lv_goto (tgt := 102) hx hb dX7_addExit_87 (by decide) ?_
  exact x_iret hx hb hr hlocks hS dX7_addExit_102 rfl (by rw [hI1_] at hH; exact hH)

set_option maxHeartbeats 1000000 in
set_option maxRecDepth 100000 in
theorem c_X7_addExit_d (l : Launch) (g : xG) (h : xS) (I : xI) (n : Nat) (q : Nat) (hq : q ≤ 3) (hz : I [20] 10 = nI q) (p : Nat) (hp : p < q) (k : Nat) (hk : k ≤ 8) (hs : I [24, 8] p = nI k) (j : Nat) (hj : j < k) (so a b : Int32) (hd : sCond k so a b = false) : xM l yX7_addExit (xws yX7_addExit cX7_addExit 6 (some FieldType.int)) 5 101 g [.ref (ga g [20]), .int (nI p), .int (nI j), .int so, .int a, .int b] (xR g (xD h) I (xFh h) n) (some (.int 0)) (xR g (xD h) (up I [20] 23 2) (xFh h) n) 0 0 := by
  refine xM.of (by decide) (Nat.le_of_ble_eq_true rfl) ?_
  intro P_ e_ s m_ bl_ mt_ cd_ ls hx hb hr hown hlocks hml hnm hE hK hts hH hS hl
  have hl : lv_has ls 6 [(0, .ref (ga g [20])), (1, .int (nI p)), (2, .int (nI j)), (3, .int so), (4, .int a), (5, .int b)] := hl
  refine lv_aload_n hx hb dX7_addExit_0 rfl (lv_at hl 0 rfl) ?_
  refine lv_aload_n hx hb dX7_addExit_1 rfl (lv_at hl 0 rfl) ?_
  refine lv_iload_n hx hb dX7_addExit_2 rfl (lv_at hl 1 rfl) ?_
  refine lv_iload_n hx hb dX7_addExit_3 rfl (lv_at hl 2 rfl) ?_
  refine x_V1 hx hb hml hown hE hS hl.1 cyX7_isStep tw936 (c_X7_isStep_1 l g h I n q hq hz p hp k hk hs ((nI j))) ⟨Nat.le_of_ble_eq_true rfl, Nat.le_of_ble_eq_true rfl⟩ ⟨Nat.le_of_ble_eq_true rfl, Nat.le_of_ble_eq_true rfl⟩ (x_recv hK hH (id := [20]) (by first | trivial | (simp only [xD]; omega) | (simp [xD]; done) | (simp [xD]; omega)) (ci := 7) rfl (by decide) rfl) hH rfl rfl (Nat.le_of_ble_eq_true rfl) dX7_addExit_4 (fun H locs hH hS => ?_)
  refine lv_if_ne (tgt := 14) hx hb dX7_addExit_7 (by decide) (fun _ => ?_) (fun q_ => absurd q_ (fun z_ => by rw [sIn_nI hj (by omega)] at z_; exact absurd z_ (by decide)))
  refine lv_aload_n hx hb dX7_addExit_14 rfl (lv_at hl 0 rfl) ?_
  refine lv_iload_n hx hb dX7_addExit_15 rfl (lv_at hl 1 rfl) ?_
  refine lv_iload_n hx hb dX7_addExit_16 rfl (lv_at hl 3 rfl) ?_
  refine lv_iload hx hb dX7_addExit_17 (lv_at hl 4 rfl) ?_
  refine lv_iload hx hb dX7_addExit_19 (lv_at hl 5 rfl) ?_
  refine x_V1 hx hb hml hown hE hS hl.1 cyX7_isCondition tw944 (c_X7_isCondition l g h I n q hq hz p hp k hk hs so a b) ⟨Nat.le_of_ble_eq_true rfl, Nat.le_of_ble_eq_true rfl⟩ ⟨Nat.le_of_ble_eq_true rfl, Nat.le_of_ble_eq_true rfl⟩ (x_recv hK hH (id := [20]) (by first | trivial | (simp only [xD]; omega) | (simp [xD]; done) | (simp [xD]; omega)) (ci := 7) rfl (by decide) rfl) hH rfl rfl (Nat.le_of_ble_eq_true rfl) dX7_addExit_21 (fun H locs hH hS => ?_)
  refine lv_if_ne (tgt := 31) hx hb dX7_addExit_24 (by decide) (fun q_ => absurd q_ (fun z_ => z_ ((b01_eq0 _).mpr hd))) (fun _ => ?_)
  refine lv_iconst (v := 2) hx hb dX7_addExit_27 (by decide) ?_
  refine lv_goto (tgt := 76) hx hb dX7_addExit_28 (by decide) ?_
  obtain ⟨I1_, hI1_⟩ : ∃ z, z = up I [20] 23 2 := ⟨_, rfl⟩
  refine x_put (C := RX7) (T := TX7) (N := 24) (ci := 7) hx hb hts iu7 tyX7 tyX7_ok nmX7 hown hK hH hS (id := [20]) (by first | trivial | (simp only [xD]; omega) | (simp [xD]; done) | (simp [xD]; omega)) rfl rfl (by decide) 23 (by decide) (hts _ tw862) (fun _ h9 => h9) (Or.inl rfl) (ty := .int) (v := .int 2) (by decide +kernel) rfl rfl (I' := I1_) (F' := (xFh h)) (fun i hi => by rw [hI1_]; exact up_id hi) (fun _ _ => rfl) (fun j9 => by rw [hI1_, up_row]; exact xv_upd (ci := 7) (k := 23) rfl j9) dX7_addExit_76 (fun H locs hH hS => ?_)
  refine lv_aload_n hx hb dX7_addExit_79 rfl (lv_at hl 0 rfl) ?_
  refine x_get (C := RX7) (T := TX7) (N := 24) (ci := 7) hx hb hts iu7 hown hK hH (id := [20]) (by first | trivial | (simp only [xD]; omega) | (simp [xD]; done) | (simp [xD]; omega)) rfl rfl (by decide) 23 (by decide) (hts _ tw862) (fun _ h9 => h9) rfl (v := .int 2) (congrArg Value.int (by rw [hI1_]; exact up_at)) dX7_addExit_80 ?_
  refine lv_if_le (tgt := 90) hx hb dX7_addExit_83 (by decide) (fun q_ => absurd q_ (by decide)) (fun _ => ?_)
  refine lv_iconst (v := 0) hx hb dX7_addExit_86 (by decide) ?_
  refine lv_goto (tgt := 102) hx hb dX7_addExit_87 (by decide) ?_
  exact x_iret hx hb hr hlocks hS dX7_addExit_102 rfl (by rw [hI1_] at hH; exact hH)

set_option maxHeartbeats 1000000 in
set_option maxRecDepth 100000 in
theorem c_X7_addExit_m (l : Launch) (g : xG) (h : xS) (I : xI) (n : Nat) (q : Nat) (hq : q ≤ 3) (hz : I [20] 10 = nI q) (p : Nat) (hp : p < q) (k : Nat) (hk : k ≤ 8) (hs : I [24, 8] p = nI k) (j : Nat) (hj : j < k) (so a b : Int32) (hd : sCond k so a b = true) (hm9 : I [22, 0, p] j = 109) : xM l yX7_addExit (xws yX7_addExit cX7_addExit 6 (some FieldType.int)) 5 101 g [.ref (ga g [20]), .int (nI p), .int (nI j), .int so, .int a, .int b] (xR g (xD h) I (xFh h) n) (some (.int 0)) (xR g (xD h) (up I [20] 23 3) (xFh h) n) 0 0 := by
  refine xM.of (by decide) (Nat.le_of_ble_eq_true rfl) ?_
  intro P_ e_ s m_ bl_ mt_ cd_ ls hx hb hr hown hlocks hml hnm hE hK hts hH hS hl
  have hl : lv_has ls 6 [(0, .ref (ga g [20])), (1, .int (nI p)), (2, .int (nI j)), (3, .int so), (4, .int a), (5, .int b)] := hl
  refine lv_aload_n hx hb dX7_addExit_0 rfl (lv_at hl 0 rfl) ?_
  refine lv_aload_n hx hb dX7_addExit_1 rfl (lv_at hl 0 rfl) ?_
  refine lv_iload_n hx hb dX7_addExit_2 rfl (lv_at hl 1 rfl) ?_
  refine lv_iload_n hx hb dX7_addExit_3 rfl (lv_at hl 2 rfl) ?_
  refine x_V1 hx hb hml hown hE hS hl.1 cyX7_isStep tw936 (c_X7_isStep_1 l g h I n q hq hz p hp k hk hs ((nI j))) ⟨Nat.le_of_ble_eq_true rfl, Nat.le_of_ble_eq_true rfl⟩ ⟨Nat.le_of_ble_eq_true rfl, Nat.le_of_ble_eq_true rfl⟩ (x_recv hK hH (id := [20]) (by first | trivial | (simp only [xD]; omega) | (simp [xD]; done) | (simp [xD]; omega)) (ci := 7) rfl (by decide) rfl) hH rfl rfl (Nat.le_of_ble_eq_true rfl) dX7_addExit_4 (fun H locs hH hS => ?_)
  refine lv_if_ne (tgt := 14) hx hb dX7_addExit_7 (by decide) (fun _ => ?_) (fun q_ => absurd q_ (fun z_ => by rw [sIn_nI hj (by omega)] at z_; exact absurd z_ (by decide)))
  refine lv_aload_n hx hb dX7_addExit_14 rfl (lv_at hl 0 rfl) ?_
  refine lv_iload_n hx hb dX7_addExit_15 rfl (lv_at hl 1 rfl) ?_
  refine lv_iload_n hx hb dX7_addExit_16 rfl (lv_at hl 3 rfl) ?_
  refine lv_iload hx hb dX7_addExit_17 (lv_at hl 4 rfl) ?_
  refine lv_iload hx hb dX7_addExit_19 (lv_at hl 5 rfl) ?_
  refine x_V1 hx hb hml hown hE hS hl.1 cyX7_isCondition tw944 (c_X7_isCondition l g h I n q hq hz p hp k hk hs so a b) ⟨Nat.le_of_ble_eq_true rfl, Nat.le_of_ble_eq_true rfl⟩ ⟨Nat.le_of_ble_eq_true rfl, Nat.le_of_ble_eq_true rfl⟩ (x_recv hK hH (id := [20]) (by first | trivial | (simp only [xD]; omega) | (simp [xD]; done) | (simp [xD]; omega)) (ci := 7) rfl (by decide) rfl) hH rfl rfl (Nat.le_of_ble_eq_true rfl) dX7_addExit_21 (fun H locs hH hS => ?_)
  refine lv_if_ne (tgt := 31) hx hb dX7_addExit_24 (by decide) (fun _ => ?_) (fun q_ => absurd q_ (fun z_ => by rw [hd] at z_; exact absurd z_ (by decide)))
  refine lv_aload_n hx hb dX7_addExit_31 rfl (lv_at hl 0 rfl) ?_
  refine x_get (C := RX7) (T := TX7) (N := 24) (ci := 7) hx hb hts iu7 hown hK hH (id := [20]) (by first | trivial | (simp only [xD]; omega) | (simp [xD]; done) | (simp [xD]; omega)) rfl rfl (by decide) 0 (by decide) (hts _ tw839) (fun _ h9 => h9) rfl (v := .ref (ga g [21, 0])) rfl dX7_addExit_32 ?_
  refine lv_iload_n hx hb dX7_addExit_35 rfl (lv_at hl 1 rfl) ?_
  refine x_aald hx hb hK hH (id := [21, 0]) (by first | trivial | (simp only [xD]; omega) | (simp [xD]; done) | (simp [xD]; omega)) 8 (L := 3) rfl (by decide) p rfl (by omega) (by decide) (v := .ref (ga g [22, 0, p])) (by show rq _ (if _ then _ else _) = _; rw [if_pos (show p < xLn 0 by show _ < 3; omega)]; rfl) dX7_addExit_36 ?_
  refine lv_iload_n hx hb dX7_addExit_37 rfl (lv_at hl 2 rfl) ?_
  refine x_cald hx hb hK hH (id := [22, 0, p]) (by first | trivial | (simp only [xD]; omega) | (simp [xD]; done) | (simp [xD]; omega)) (L := 8) rfl rfl j rfl (by omega) (by decide) dX7_addExit_38 ?_
  refine lv_bipush (v := 109) hx hb dX7_addExit_39 (by decide) ?_
  refine lv_icmp_ne (tgt := 48) hx hb dX7_addExit_41 (by decide) (fun q_ => absurd q_ (fun z_ => z_ hm9)) (fun _ => ?_)
  refine lv_iconst (v := 3) hx hb dX7_addExit_44 (by decide) ?_
  refine lv_goto (tgt := 76) hx hb dX7_addExit_45 (by decide) ?_
  obtain ⟨I1_, hI1_⟩ : ∃ z, z = up I [20] 23 3 := ⟨_, rfl⟩
  refine x_put (C := RX7) (T := TX7) (N := 24) (ci := 7) hx hb hts iu7 tyX7 tyX7_ok nmX7 hown hK hH hS (id := [20]) (by first | trivial | (simp only [xD]; omega) | (simp [xD]; done) | (simp [xD]; omega)) rfl rfl (by decide) 23 (by decide) (hts _ tw862) (fun _ h9 => h9) (Or.inl rfl) (ty := .int) (v := .int 3) (by decide +kernel) rfl rfl (I' := I1_) (F' := (xFh h)) (fun i hi => by rw [hI1_]; exact up_id hi) (fun _ _ => rfl) (fun j9 => by rw [hI1_, up_row]; exact xv_upd (ci := 7) (k := 23) rfl j9) dX7_addExit_76 (fun H locs hH hS => ?_)
  refine lv_aload_n hx hb dX7_addExit_79 rfl (lv_at hl 0 rfl) ?_
  refine x_get (C := RX7) (T := TX7) (N := 24) (ci := 7) hx hb hts iu7 hown hK hH (id := [20]) (by first | trivial | (simp only [xD]; omega) | (simp [xD]; done) | (simp [xD]; omega)) rfl rfl (by decide) 23 (by decide) (hts _ tw862) (fun _ h9 => h9) rfl (v := .int 3) (congrArg Value.int (by rw [hI1_]; exact up_at)) dX7_addExit_80 ?_
  refine lv_if_le (tgt := 90) hx hb dX7_addExit_83 (by decide) (fun q_ => absurd q_ (by decide)) (fun _ => ?_)
  refine lv_iconst (v := 0) hx hb dX7_addExit_86 (by decide) ?_
  refine lv_goto (tgt := 102) hx hb dX7_addExit_87 (by decide) ?_
  exact x_iret hx hb hr hlocks hS dX7_addExit_102 rfl (by rw [hI1_] at hH; exact hH)

set_option maxHeartbeats 1000000 in
set_option maxRecDepth 100000 in
theorem c_X7_addExit_u (l : Launch) (g : xG) (h : xS) (I : xI) (n : Nat) (q : Nat) (hq : q ≤ 3) (hz : I [20] 10 = nI q) (p : Nat) (hp : p < q) (k : Nat) (hk : k ≤ 8) (hs : I [24, 8] p = nI k) (j : Nat) (hj : j < k) (so a b : Int32) (hd : sCond k so a b = true) (hm9 : ¬ I [22, 0, p] j = 109) (hu : ¬ I [24, 9] p = 0) : xM l yX7_addExit (xws yX7_addExit cX7_addExit 6 (some FieldType.int)) 5 101 g [.ref (ga g [20]), .int (nI p), .int (nI j), .int so, .int a, .int b] (xR g (xD h) I (xFh h) n) (some (.int 0)) (xR g (xD h) (up I [20] 23 4) (xFh h) n) 0 0 := by
  refine xM.of (by decide) (Nat.le_of_ble_eq_true rfl) ?_
  intro P_ e_ s m_ bl_ mt_ cd_ ls hx hb hr hown hlocks hml hnm hE hK hts hH hS hl
  have hl : lv_has ls 6 [(0, .ref (ga g [20])), (1, .int (nI p)), (2, .int (nI j)), (3, .int so), (4, .int a), (5, .int b)] := hl
  refine lv_aload_n hx hb dX7_addExit_0 rfl (lv_at hl 0 rfl) ?_
  refine lv_aload_n hx hb dX7_addExit_1 rfl (lv_at hl 0 rfl) ?_
  refine lv_iload_n hx hb dX7_addExit_2 rfl (lv_at hl 1 rfl) ?_
  refine lv_iload_n hx hb dX7_addExit_3 rfl (lv_at hl 2 rfl) ?_
  refine x_V1 hx hb hml hown hE hS hl.1 cyX7_isStep tw936 (c_X7_isStep_1 l g h I n q hq hz p hp k hk hs ((nI j))) ⟨Nat.le_of_ble_eq_true rfl, Nat.le_of_ble_eq_true rfl⟩ ⟨Nat.le_of_ble_eq_true rfl, Nat.le_of_ble_eq_true rfl⟩ (x_recv hK hH (id := [20]) (by first | trivial | (simp only [xD]; omega) | (simp [xD]; done) | (simp [xD]; omega)) (ci := 7) rfl (by decide) rfl) hH rfl rfl (Nat.le_of_ble_eq_true rfl) dX7_addExit_4 (fun H locs hH hS => ?_)
  refine lv_if_ne (tgt := 14) hx hb dX7_addExit_7 (by decide) (fun _ => ?_) (fun q_ => absurd q_ (fun z_ => by rw [sIn_nI hj (by omega)] at z_; exact absurd z_ (by decide)))
  refine lv_aload_n hx hb dX7_addExit_14 rfl (lv_at hl 0 rfl) ?_
  refine lv_iload_n hx hb dX7_addExit_15 rfl (lv_at hl 1 rfl) ?_
  refine lv_iload_n hx hb dX7_addExit_16 rfl (lv_at hl 3 rfl) ?_
  refine lv_iload hx hb dX7_addExit_17 (lv_at hl 4 rfl) ?_
  refine lv_iload hx hb dX7_addExit_19 (lv_at hl 5 rfl) ?_
  refine x_V1 hx hb hml hown hE hS hl.1 cyX7_isCondition tw944 (c_X7_isCondition l g h I n q hq hz p hp k hk hs so a b) ⟨Nat.le_of_ble_eq_true rfl, Nat.le_of_ble_eq_true rfl⟩ ⟨Nat.le_of_ble_eq_true rfl, Nat.le_of_ble_eq_true rfl⟩ (x_recv hK hH (id := [20]) (by first | trivial | (simp only [xD]; omega) | (simp [xD]; done) | (simp [xD]; omega)) (ci := 7) rfl (by decide) rfl) hH rfl rfl (Nat.le_of_ble_eq_true rfl) dX7_addExit_21 (fun H locs hH hS => ?_)
  refine lv_if_ne (tgt := 31) hx hb dX7_addExit_24 (by decide) (fun _ => ?_) (fun q_ => absurd q_ (fun z_ => by rw [hd] at z_; exact absurd z_ (by decide)))
  refine lv_aload_n hx hb dX7_addExit_31 rfl (lv_at hl 0 rfl) ?_
  refine x_get (C := RX7) (T := TX7) (N := 24) (ci := 7) hx hb hts iu7 hown hK hH (id := [20]) (by first | trivial | (simp only [xD]; omega) | (simp [xD]; done) | (simp [xD]; omega)) rfl rfl (by decide) 0 (by decide) (hts _ tw839) (fun _ h9 => h9) rfl (v := .ref (ga g [21, 0])) rfl dX7_addExit_32 ?_
  refine lv_iload_n hx hb dX7_addExit_35 rfl (lv_at hl 1 rfl) ?_
  refine x_aald hx hb hK hH (id := [21, 0]) (by first | trivial | (simp only [xD]; omega) | (simp [xD]; done) | (simp [xD]; omega)) 8 (L := 3) rfl (by decide) p rfl (by omega) (by decide) (v := .ref (ga g [22, 0, p])) (by show rq _ (if _ then _ else _) = _; rw [if_pos (show p < xLn 0 by show _ < 3; omega)]; rfl) dX7_addExit_36 ?_
  refine lv_iload_n hx hb dX7_addExit_37 rfl (lv_at hl 2 rfl) ?_
  refine x_cald hx hb hK hH (id := [22, 0, p]) (by first | trivial | (simp only [xD]; omega) | (simp [xD]; done) | (simp [xD]; omega)) (L := 8) rfl rfl j rfl (by omega) (by decide) dX7_addExit_38 ?_
  refine lv_bipush (v := 109) hx hb dX7_addExit_39 (by decide) ?_
  refine lv_icmp_ne (tgt := 48) hx hb dX7_addExit_41 (by decide) (fun _ => ?_) (fun q_ => absurd q_ hm9)
  refine lv_aload_n hx hb dX7_addExit_48 rfl (lv_at hl 0 rfl) ?_
  refine x_get (C := RX7) (T := TX7) (N := 24) (ci := 7) hx hb hts iu7 hown hK hH (id := [20]) (by first | trivial | (simp only [xD]; omega) | (simp [xD]; done) | (simp [xD]; omega)) rfl rfl (by decide) 9 (by decide) (hts _ tw848) (fun _ h9 => h9) rfl (v := .ref (ga g [24, 9])) rfl dX7_addExit_49 ?_
  refine lv_iload_n hx hb dX7_addExit_52 rfl (lv_at hl 1 rfl) ?_
  refine x_bald hx hb hK hH (id := [24, 9]) (by first | trivial | (simp only [xD]; omega) | (simp [xD]; done) | (simp [xD]; omega)) (L := 3) rfl rfl p rfl (by omega) (by decide) dX7_addExit_53 ?_
  refine lv_if_ne (tgt := 71) hx hb dX7_addExit_54 (by decide) (fun _ => ?_) (fun q_ => absurd q_ hu)
  refine lv_iconst (v := 4) hx hb dX7_addExit_71 (by decide) ?_
  refine lv_goto (tgt := 76) hx hb dX7_addExit_72 (by decide) ?_
  obtain ⟨I1_, hI1_⟩ : ∃ z, z = up I [20] 23 4 := ⟨_, rfl⟩
  refine x_put (C := RX7) (T := TX7) (N := 24) (ci := 7) hx hb hts iu7 tyX7 tyX7_ok nmX7 hown hK hH hS (id := [20]) (by first | trivial | (simp only [xD]; omega) | (simp [xD]; done) | (simp [xD]; omega)) rfl rfl (by decide) 23 (by decide) (hts _ tw862) (fun _ h9 => h9) (Or.inl rfl) (ty := .int) (v := .int 4) (by decide +kernel) rfl rfl (I' := I1_) (F' := (xFh h)) (fun i hi => by rw [hI1_]; exact up_id hi) (fun _ _ => rfl) (fun j9 => by rw [hI1_, up_row]; exact xv_upd (ci := 7) (k := 23) rfl j9) dX7_addExit_76 (fun H locs hH hS => ?_)
  refine lv_aload_n hx hb dX7_addExit_79 rfl (lv_at hl 0 rfl) ?_
  refine x_get (C := RX7) (T := TX7) (N := 24) (ci := 7) hx hb hts iu7 hown hK hH (id := [20]) (by first | trivial | (simp only [xD]; omega) | (simp [xD]; done) | (simp [xD]; omega)) rfl rfl (by decide) 23 (by decide) (hts _ tw862) (fun _ h9 => h9) rfl (v := .int 4) (congrArg Value.int (by rw [hI1_]; exact up_at)) dX7_addExit_80 ?_
  refine lv_if_le (tgt := 90) hx hb dX7_addExit_83 (by decide) (fun q_ => absurd q_ (by decide)) (fun _ => ?_)
  refine lv_iconst (v := 0) hx hb dX7_addExit_86 (by decide) ?_
  refine lv_goto (tgt := 102) hx hb dX7_addExit_87 (by decide) ?_
  exact x_iret hx hb hr hlocks hS dX7_addExit_102 rfl (by rw [hI1_] at hH; exact hH)

set_option maxHeartbeats 1000000 in
set_option maxRecDepth 100000 in
theorem c_X7_addExit_f (l : Launch) (g : xG) (h : xS) (I : xI) (n : Nat) (q : Nat) (hq : q ≤ 3) (hz : I [20] 10 = nI q) (p : Nat) (hp : p < q) (k : Nat) (hk : k ≤ 8) (hs : I [24, 8] p = nI k) (j : Nat) (hj : j < k) (so a b : Int32) (hd : sCond k so a b = true) (hm9 : ¬ I [22, 0, p] j = 109) (hu : I [24, 9] p = 0) (m : Nat) (hmm : I [23, 7, p, j] 1 = nI m) (hm3 : m = 3) : xM l yX7_addExit (xws yX7_addExit cX7_addExit 6 (some FieldType.int)) 5 101 g [.ref (ga g [20]), .int (nI p), .int (nI j), .int so, .int a, .int b] (xR g (xD h) I (xFh h) n) (some (.int 0)) (xR g (xD h) (up I [20] 23 4) (xFh h) n) 0 0 := by
  refine xM.of (by decide) (Nat.le_of_ble_eq_true rfl) ?_
  intro P_ e_ s m_ bl_ mt_ cd_ ls hx hb hr hown hlocks hml hnm hE hK hts hH hS hl
  have hl : lv_has ls 6 [(0, .ref (ga g [20])), (1, .int (nI p)), (2, .int (nI j)), (3, .int so), (4, .int a), (5, .int b)] := hl
  refine lv_aload_n hx hb dX7_addExit_0 rfl (lv_at hl 0 rfl) ?_
  refine lv_aload_n hx hb dX7_addExit_1 rfl (lv_at hl 0 rfl) ?_
  refine lv_iload_n hx hb dX7_addExit_2 rfl (lv_at hl 1 rfl) ?_
  refine lv_iload_n hx hb dX7_addExit_3 rfl (lv_at hl 2 rfl) ?_
  refine x_V1 hx hb hml hown hE hS hl.1 cyX7_isStep tw936 (c_X7_isStep_1 l g h I n q hq hz p hp k hk hs ((nI j))) ⟨Nat.le_of_ble_eq_true rfl, Nat.le_of_ble_eq_true rfl⟩ ⟨Nat.le_of_ble_eq_true rfl, Nat.le_of_ble_eq_true rfl⟩ (x_recv hK hH (id := [20]) (by first | trivial | (simp only [xD]; omega) | (simp [xD]; done) | (simp [xD]; omega)) (ci := 7) rfl (by decide) rfl) hH rfl rfl (Nat.le_of_ble_eq_true rfl) dX7_addExit_4 (fun H locs hH hS => ?_)
  refine lv_if_ne (tgt := 14) hx hb dX7_addExit_7 (by decide) (fun _ => ?_) (fun q_ => absurd q_ (fun z_ => by rw [sIn_nI hj (by omega)] at z_; exact absurd z_ (by decide)))
  refine lv_aload_n hx hb dX7_addExit_14 rfl (lv_at hl 0 rfl) ?_
  refine lv_iload_n hx hb dX7_addExit_15 rfl (lv_at hl 1 rfl) ?_
  refine lv_iload_n hx hb dX7_addExit_16 rfl (lv_at hl 3 rfl) ?_
  refine lv_iload hx hb dX7_addExit_17 (lv_at hl 4 rfl) ?_
  refine lv_iload hx hb dX7_addExit_19 (lv_at hl 5 rfl) ?_
  refine x_V1 hx hb hml hown hE hS hl.1 cyX7_isCondition tw944 (c_X7_isCondition l g h I n q hq hz p hp k hk hs so a b) ⟨Nat.le_of_ble_eq_true rfl, Nat.le_of_ble_eq_true rfl⟩ ⟨Nat.le_of_ble_eq_true rfl, Nat.le_of_ble_eq_true rfl⟩ (x_recv hK hH (id := [20]) (by first | trivial | (simp only [xD]; omega) | (simp [xD]; done) | (simp [xD]; omega)) (ci := 7) rfl (by decide) rfl) hH rfl rfl (Nat.le_of_ble_eq_true rfl) dX7_addExit_21 (fun H locs hH hS => ?_)
  refine lv_if_ne (tgt := 31) hx hb dX7_addExit_24 (by decide) (fun _ => ?_) (fun q_ => absurd q_ (fun z_ => by rw [hd] at z_; exact absurd z_ (by decide)))
  refine lv_aload_n hx hb dX7_addExit_31 rfl (lv_at hl 0 rfl) ?_
  refine x_get (C := RX7) (T := TX7) (N := 24) (ci := 7) hx hb hts iu7 hown hK hH (id := [20]) (by first | trivial | (simp only [xD]; omega) | (simp [xD]; done) | (simp [xD]; omega)) rfl rfl (by decide) 0 (by decide) (hts _ tw839) (fun _ h9 => h9) rfl (v := .ref (ga g [21, 0])) rfl dX7_addExit_32 ?_
  refine lv_iload_n hx hb dX7_addExit_35 rfl (lv_at hl 1 rfl) ?_
  refine x_aald hx hb hK hH (id := [21, 0]) (by first | trivial | (simp only [xD]; omega) | (simp [xD]; done) | (simp [xD]; omega)) 8 (L := 3) rfl (by decide) p rfl (by omega) (by decide) (v := .ref (ga g [22, 0, p])) (by show rq _ (if _ then _ else _) = _; rw [if_pos (show p < xLn 0 by show _ < 3; omega)]; rfl) dX7_addExit_36 ?_
  refine lv_iload_n hx hb dX7_addExit_37 rfl (lv_at hl 2 rfl) ?_
  refine x_cald hx hb hK hH (id := [22, 0, p]) (by first | trivial | (simp only [xD]; omega) | (simp [xD]; done) | (simp [xD]; omega)) (L := 8) rfl rfl j rfl (by omega) (by decide) dX7_addExit_38 ?_
  refine lv_bipush (v := 109) hx hb dX7_addExit_39 (by decide) ?_
  refine lv_icmp_ne (tgt := 48) hx hb dX7_addExit_41 (by decide) (fun _ => ?_) (fun q_ => absurd q_ hm9)
  refine lv_aload_n hx hb dX7_addExit_48 rfl (lv_at hl 0 rfl) ?_
  refine x_get (C := RX7) (T := TX7) (N := 24) (ci := 7) hx hb hts iu7 hown hK hH (id := [20]) (by first | trivial | (simp only [xD]; omega) | (simp [xD]; done) | (simp [xD]; omega)) rfl rfl (by decide) 9 (by decide) (hts _ tw848) (fun _ h9 => h9) rfl (v := .ref (ga g [24, 9])) rfl dX7_addExit_49 ?_
  refine lv_iload_n hx hb dX7_addExit_52 rfl (lv_at hl 1 rfl) ?_
  refine x_bald hx hb hK hH (id := [24, 9]) (by first | trivial | (simp only [xD]; omega) | (simp [xD]; done) | (simp [xD]; omega)) (L := 3) rfl rfl p rfl (by omega) (by decide) dX7_addExit_53 ?_
  refine lv_if_ne (tgt := 71) hx hb dX7_addExit_54 (by decide) (fun q_ => absurd q_ (fun z_ => z_ hu)) (fun _ => ?_)
  refine lv_aload_n hx hb dX7_addExit_57 rfl (lv_at hl 0 rfl) ?_
  refine x_get (C := RX7) (T := TX7) (N := 24) (ci := 7) hx hb hts iu7 hown hK hH (id := [20]) (by first | trivial | (simp only [xD]; omega) | (simp [xD]; done) | (simp [xD]; omega)) rfl rfl (by decide) 7 (by decide) (hts _ tw846) (fun _ h9 => h9) rfl (v := .ref (ga g [21, 7])) rfl dX7_addExit_58 ?_
  refine lv_iload_n hx hb dX7_addExit_61 rfl (lv_at hl 1 rfl) ?_
  refine x_aald hx hb hK hH (id := [21, 7]) (by first | trivial | (simp only [xD]; omega) | (simp [xD]; done) | (simp [xD]; omega)) 10 (L := 3) rfl (by decide) p rfl (by omega) (by decide) (v := .ref (ga g [22, 7, p])) (by show rq _ (if _ then _ else _) = _; rw [if_pos (show p < xLn 7 by show _ < 3; omega)]; rfl) dX7_addExit_62 ?_
  refine lv_iload_n hx hb dX7_addExit_63 rfl (lv_at hl 2 rfl) ?_
  refine x_aald hx hb hK hH (id := [22, 7, p]) (by first | trivial | (simp only [xD]; omega) | (simp [xD]; done) | (simp [xD]; omega)) 7 (L := 8) rfl (by decide) j rfl (by omega) (by decide) (v := .ref (ga g [23, 7, p, j])) (by show rq _ (if _ then _ else _) = _; rw [if_pos (by omega)]; rfl) dX7_addExit_64 ?_
  refine lv_iconst (v := 1) hx hb dX7_addExit_65 (by decide) ?_
  refine x_iald hx hb hK hH (id := [23, 7, p, j]) (by first | trivial | (simp only [xD]; omega) | (simp [xD]; done) | (simp [xD]; omega)) (L := 2) rfl rfl 1 (by rfl) (by omega) (by decide) dX7_addExit_66 ?_
  rw [show (I [23, 7, p, j] 1) = (nI m) from (hmm)]
  refine lv_iconst (v := 3) hx hb dX7_addExit_67 (by decide) ?_
  refine lv_icmp_ne (tgt := 75) hx hb dX7_addExit_68 (by decide) (fun q_ => absurd q_ (fun z_ => z_ ((nI_eq (a := m) (b := 3) (by omega) (by omega)).mpr (by omega)))) (fun _ => ?_)
  refine lv_iconst (v := 4) hx hb dX7_addExit_71 (by decide) ?_
  refine lv_goto (tgt := 76) hx hb dX7_addExit_72 (by decide) ?_
  obtain ⟨I1_, hI1_⟩ : ∃ z, z = up I [20] 23 4 := ⟨_, rfl⟩
  refine x_put (C := RX7) (T := TX7) (N := 24) (ci := 7) hx hb hts iu7 tyX7 tyX7_ok nmX7 hown hK hH hS (id := [20]) (by first | trivial | (simp only [xD]; omega) | (simp [xD]; done) | (simp [xD]; omega)) rfl rfl (by decide) 23 (by decide) (hts _ tw862) (fun _ h9 => h9) (Or.inl rfl) (ty := .int) (v := .int 4) (by decide +kernel) rfl rfl (I' := I1_) (F' := (xFh h)) (fun i hi => by rw [hI1_]; exact up_id hi) (fun _ _ => rfl) (fun j9 => by rw [hI1_, up_row]; exact xv_upd (ci := 7) (k := 23) rfl j9) dX7_addExit_76 (fun H locs hH hS => ?_)
  refine lv_aload_n hx hb dX7_addExit_79 rfl (lv_at hl 0 rfl) ?_
  refine x_get (C := RX7) (T := TX7) (N := 24) (ci := 7) hx hb hts iu7 hown hK hH (id := [20]) (by first | trivial | (simp only [xD]; omega) | (simp [xD]; done) | (simp [xD]; omega)) rfl rfl (by decide) 23 (by decide) (hts _ tw862) (fun _ h9 => h9) rfl (v := .int 4) (congrArg Value.int (by rw [hI1_]; exact up_at)) dX7_addExit_80 ?_
  refine lv_if_le (tgt := 90) hx hb dX7_addExit_83 (by decide) (fun q_ => absurd q_ (by decide)) (fun _ => ?_)
  refine lv_iconst (v := 0) hx hb dX7_addExit_86 (by decide) ?_
  refine lv_goto (tgt := 102) hx hb dX7_addExit_87 (by decide) ?_
  exact x_iret hx hb hr hlocks hS dX7_addExit_102 rfl (by rw [hI1_] at hH; exact hH)

set_option maxHeartbeats 1000000 in
set_option maxRecDepth 100000 in
theorem c_X7_addExit (l : Launch) (g : xG) (h : xS) (I : xI) (n : Nat) (q : Nat) (hq : q ≤ 3) (hz : I [20] 10 = nI q) (p : Nat) (hp : p < q) (k : Nat) (hk : k ≤ 8) (hs : I [24, 8] p = nI k) (j : Nat) (hj : j < k) (so a b : Int32) (hd : sCond k so a b = true) (hm9 : ¬ I [22, 0, p] j = 109) (hu : I [24, 9] p = 0) (m : Nat) (hmm : I [23, 7, p, j] 1 = nI m) (hm3 : m < 3) (hsc : narrow .char (.int so) = .int so) : xM l yX7_addExit (xws yX7_addExit cX7_addExit 6 (some FieldType.int)) 5 101 g [.ref (ga g [20]), .int (nI p), .int (nI j), .int so, .int a, .int b] (xR g (xD h) I (xFh h) n) (some (.int (nI (m + 1)))) (xR g (xD h) (mAdd (up I [20] 23 0) p j 1 m so a b) (xFh h) n) 0 0 := by
  refine xM.of (by decide) (Nat.le_of_ble_eq_true rfl) ?_
  intro P_ e_ s m_ bl_ mt_ cd_ ls hx hb hr hown hlocks hml hnm hE hK hts hH hS hl
  have hl : lv_has ls 6 [(0, .ref (ga g [20])), (1, .int (nI p)), (2, .int (nI j)), (3, .int so), (4, .int a), (5, .int b)] := hl
  refine lv_aload_n hx hb dX7_addExit_0 rfl (lv_at hl 0 rfl) ?_
  refine lv_aload_n hx hb dX7_addExit_1 rfl (lv_at hl 0 rfl) ?_
  refine lv_iload_n hx hb dX7_addExit_2 rfl (lv_at hl 1 rfl) ?_
  refine lv_iload_n hx hb dX7_addExit_3 rfl (lv_at hl 2 rfl) ?_
  refine x_V1 hx hb hml hown hE hS hl.1 cyX7_isStep tw936 (c_X7_isStep_1 l g h I n q hq hz p hp k hk hs ((nI j))) ⟨Nat.le_of_ble_eq_true rfl, Nat.le_of_ble_eq_true rfl⟩ ⟨Nat.le_of_ble_eq_true rfl, Nat.le_of_ble_eq_true rfl⟩ (x_recv hK hH (id := [20]) (by first | trivial | (simp only [xD]; omega) | (simp [xD]; done) | (simp [xD]; omega)) (ci := 7) rfl (by decide) rfl) hH rfl rfl (Nat.le_of_ble_eq_true rfl) dX7_addExit_4 (fun H locs hH hS => ?_)
  refine lv_if_ne (tgt := 14) hx hb dX7_addExit_7 (by decide) (fun _ => ?_) (fun q_ => absurd q_ (fun z_ => by rw [sIn_nI hj (by omega)] at z_; exact absurd z_ (by decide)))
  refine lv_aload_n hx hb dX7_addExit_14 rfl (lv_at hl 0 rfl) ?_
  refine lv_iload_n hx hb dX7_addExit_15 rfl (lv_at hl 1 rfl) ?_
  refine lv_iload_n hx hb dX7_addExit_16 rfl (lv_at hl 3 rfl) ?_
  refine lv_iload hx hb dX7_addExit_17 (lv_at hl 4 rfl) ?_
  refine lv_iload hx hb dX7_addExit_19 (lv_at hl 5 rfl) ?_
  refine x_V1 hx hb hml hown hE hS hl.1 cyX7_isCondition tw944 (c_X7_isCondition l g h I n q hq hz p hp k hk hs so a b) ⟨Nat.le_of_ble_eq_true rfl, Nat.le_of_ble_eq_true rfl⟩ ⟨Nat.le_of_ble_eq_true rfl, Nat.le_of_ble_eq_true rfl⟩ (x_recv hK hH (id := [20]) (by first | trivial | (simp only [xD]; omega) | (simp [xD]; done) | (simp [xD]; omega)) (ci := 7) rfl (by decide) rfl) hH rfl rfl (Nat.le_of_ble_eq_true rfl) dX7_addExit_21 (fun H locs hH hS => ?_)
  refine lv_if_ne (tgt := 31) hx hb dX7_addExit_24 (by decide) (fun _ => ?_) (fun q_ => absurd q_ (fun z_ => by rw [hd] at z_; exact absurd z_ (by decide)))
  refine lv_aload_n hx hb dX7_addExit_31 rfl (lv_at hl 0 rfl) ?_
  refine x_get (C := RX7) (T := TX7) (N := 24) (ci := 7) hx hb hts iu7 hown hK hH (id := [20]) (by first | trivial | (simp only [xD]; omega) | (simp [xD]; done) | (simp [xD]; omega)) rfl rfl (by decide) 0 (by decide) (hts _ tw839) (fun _ h9 => h9) rfl (v := .ref (ga g [21, 0])) rfl dX7_addExit_32 ?_
  refine lv_iload_n hx hb dX7_addExit_35 rfl (lv_at hl 1 rfl) ?_
  refine x_aald hx hb hK hH (id := [21, 0]) (by first | trivial | (simp only [xD]; omega) | (simp [xD]; done) | (simp [xD]; omega)) 8 (L := 3) rfl (by decide) p rfl (by omega) (by decide) (v := .ref (ga g [22, 0, p])) (by show rq _ (if _ then _ else _) = _; rw [if_pos (show p < xLn 0 by show _ < 3; omega)]; rfl) dX7_addExit_36 ?_
  refine lv_iload_n hx hb dX7_addExit_37 rfl (lv_at hl 2 rfl) ?_
  refine x_cald hx hb hK hH (id := [22, 0, p]) (by first | trivial | (simp only [xD]; omega) | (simp [xD]; done) | (simp [xD]; omega)) (L := 8) rfl rfl j rfl (by omega) (by decide) dX7_addExit_38 ?_
  refine lv_bipush (v := 109) hx hb dX7_addExit_39 (by decide) ?_
  refine lv_icmp_ne (tgt := 48) hx hb dX7_addExit_41 (by decide) (fun _ => ?_) (fun q_ => absurd q_ hm9)
  refine lv_aload_n hx hb dX7_addExit_48 rfl (lv_at hl 0 rfl) ?_
  refine x_get (C := RX7) (T := TX7) (N := 24) (ci := 7) hx hb hts iu7 hown hK hH (id := [20]) (by first | trivial | (simp only [xD]; omega) | (simp [xD]; done) | (simp [xD]; omega)) rfl rfl (by decide) 9 (by decide) (hts _ tw848) (fun _ h9 => h9) rfl (v := .ref (ga g [24, 9])) rfl dX7_addExit_49 ?_
  refine lv_iload_n hx hb dX7_addExit_52 rfl (lv_at hl 1 rfl) ?_
  refine x_bald hx hb hK hH (id := [24, 9]) (by first | trivial | (simp only [xD]; omega) | (simp [xD]; done) | (simp [xD]; omega)) (L := 3) rfl rfl p rfl (by omega) (by decide) dX7_addExit_53 ?_
  refine lv_if_ne (tgt := 71) hx hb dX7_addExit_54 (by decide) (fun q_ => absurd q_ (fun z_ => z_ hu)) (fun _ => ?_)
  refine lv_aload_n hx hb dX7_addExit_57 rfl (lv_at hl 0 rfl) ?_
  refine x_get (C := RX7) (T := TX7) (N := 24) (ci := 7) hx hb hts iu7 hown hK hH (id := [20]) (by first | trivial | (simp only [xD]; omega) | (simp [xD]; done) | (simp [xD]; omega)) rfl rfl (by decide) 7 (by decide) (hts _ tw846) (fun _ h9 => h9) rfl (v := .ref (ga g [21, 7])) rfl dX7_addExit_58 ?_
  refine lv_iload_n hx hb dX7_addExit_61 rfl (lv_at hl 1 rfl) ?_
  refine x_aald hx hb hK hH (id := [21, 7]) (by first | trivial | (simp only [xD]; omega) | (simp [xD]; done) | (simp [xD]; omega)) 10 (L := 3) rfl (by decide) p rfl (by omega) (by decide) (v := .ref (ga g [22, 7, p])) (by show rq _ (if _ then _ else _) = _; rw [if_pos (show p < xLn 7 by show _ < 3; omega)]; rfl) dX7_addExit_62 ?_
  refine lv_iload_n hx hb dX7_addExit_63 rfl (lv_at hl 2 rfl) ?_
  refine x_aald hx hb hK hH (id := [22, 7, p]) (by first | trivial | (simp only [xD]; omega) | (simp [xD]; done) | (simp [xD]; omega)) 7 (L := 8) rfl (by decide) j rfl (by omega) (by decide) (v := .ref (ga g [23, 7, p, j])) (by show rq _ (if _ then _ else _) = _; rw [if_pos (by omega)]; rfl) dX7_addExit_64 ?_
  refine lv_iconst (v := 1) hx hb dX7_addExit_65 (by decide) ?_
  refine x_iald hx hb hK hH (id := [23, 7, p, j]) (by first | trivial | (simp only [xD]; omega) | (simp [xD]; done) | (simp [xD]; omega)) (L := 2) rfl rfl 1 (by rfl) (by omega) (by decide) dX7_addExit_66 ?_
  rw [show (I [23, 7, p, j] 1) = (nI m) from (hmm)]
  refine lv_iconst (v := 3) hx hb dX7_addExit_67 (by decide) ?_
  refine lv_icmp_ne (tgt := 75) hx hb dX7_addExit_68 (by decide) (fun _ => ?_) (fun q_ => absurd q_ (fun z_ => absurd ((nI_eq (a := m) (b := 3) (by omega) (by omega)).mp z_) (by omega)))
  refine lv_iconst (v := 0) hx hb dX7_addExit_75 (by decide) ?_
  obtain ⟨I1_, hI1_⟩ : ∃ z, z = up I [20] 23 0 := ⟨_, rfl⟩
  refine x_put (C := RX7) (T := TX7) (N := 24) (ci := 7) hx hb hts iu7 tyX7 tyX7_ok nmX7 hown hK hH hS (id := [20]) (by first | trivial | (simp only [xD]; omega) | (simp [xD]; done) | (simp [xD]; omega)) rfl rfl (by decide) 23 (by decide) (hts _ tw862) (fun _ h9 => h9) (Or.inl rfl) (ty := .int) (v := .int 0) (by decide +kernel) rfl rfl (I' := I1_) (F' := (xFh h)) (fun i hi => by rw [hI1_]; exact up_id hi) (fun _ _ => rfl) (fun j9 => by rw [hI1_, up_row]; exact xv_upd (ci := 7) (k := 23) rfl j9) dX7_addExit_76 (fun H locs hH hS => ?_)
  refine lv_aload_n hx hb dX7_addExit_79 rfl (lv_at hl 0 rfl) ?_
  refine x_get (C := RX7) (T := TX7) (N := 24) (ci := 7) hx hb hts iu7 hown hK hH (id := [20]) (by first | trivial | (simp only [xD]; omega) | (simp [xD]; done) | (simp [xD]; omega)) rfl rfl (by decide) 23 (by decide) (hts _ tw862) (fun _ h9 => h9) rfl (v := .int 0) (congrArg Value.int (by rw [hI1_]; exact up_at)) dX7_addExit_80 ?_
  refine lv_if_le (tgt := 90) hx hb dX7_addExit_83 (by decide) (fun _ => ?_) (fun q_ => absurd (by decide) q_)
  refine lv_aload_n hx hb dX7_addExit_90 rfl (lv_at hl 0 rfl) ?_
  refine lv_iload_n hx hb dX7_addExit_91 rfl (lv_at hl 1 rfl) ?_
  refine lv_iload_n hx hb dX7_addExit_92 rfl (lv_at hl 2 rfl) ?_
  refine lv_iconst (v := 1) hx hb dX7_addExit_93 (by decide) ?_
  refine lv_iload_n hx hb dX7_addExit_94 rfl (lv_at hl 3 rfl) ?_
  refine lv_iload hx hb dX7_addExit_95 (lv_at hl 4 rfl) ?_
  refine lv_iload hx hb dX7_addExit_97 (lv_at hl 5 rfl) ?_
  refine x_V1 hx hb hml hown hE hS hl.1 cyX7_adds tw948 (c_X7_adds_1 l g h I1_ n p j m (by omega) (by omega) hm3 (by first | (rw [hI1_]; simp [up]; done) | (rw [hI1_]; simp [up]; exact hmm) | (rw [hI1_]; simp [up, hmm]; done)) so a b hsc) ⟨Nat.le_of_ble_eq_true rfl, Nat.le_of_ble_eq_true rfl⟩ ⟨Nat.le_of_ble_eq_true rfl, Nat.le_of_ble_eq_true rfl⟩ (x_recv hK hH (id := [20]) (by first | trivial | (simp only [xD]; omega) | (simp [xD]; done) | (simp [xD]; omega)) (ci := 7) rfl (by decide) rfl) hH rfl rfl (Nat.le_of_ble_eq_true rfl) dX7_addExit_99 (fun H locs hH hS => ?_)
  exact x_iret hx hb hr hlocks hS dX7_addExit_102 rfl (by rw [hI1_] at hH; exact hH)

set_option maxHeartbeats 1000000 in
set_option maxRecDepth 100000 in
theorem c_X7_flag_p (l : Launch) (g : xG) (h : xS) (I : xI) (n : Nat) (q : Nat) (hq : q ≤ 3) (hz : I [20] 10 = nI q) (x y kd v : Int32) (hxb : sIn x 0 (nI q) = false) : xM l yX7_flag (xws yX7_flag cX7_flag 6 (some FieldType.boolean)) 4 77 g [.ref (ga g [20]), .int x, .int y, .int kd, .int v] (xR g (xD h) I (xFh h) n) (some (.int 0)) (xR g (xD h) (up I [20] 23 1) (xFh h) n) 0 0 := by
  refine xM.of (by decide) (Nat.le_of_ble_eq_true rfl) ?_
  intro P_ e_ s m_ bl_ mt_ cd_ ls hx hb hr hown hlocks hml hnm hE hK hts hH hS hl
  have hl : lv_has ls 6 [(0, .ref (ga g [20])), (1, .int x), (2, .int y), (3, .int kd), (4, .int v)] := hl
  refine lv_aload_n hx hb dX7_flag_0 rfl (lv_at hl 0 rfl) ?_
  refine lv_aload_n hx hb dX7_flag_1 rfl (lv_at hl 0 rfl) ?_
  refine lv_iload_n hx hb dX7_flag_2 rfl (lv_at hl 1 rfl) ?_
  refine lv_iload_n hx hb dX7_flag_3 rfl (lv_at hl 2 rfl) ?_
  refine x_V1 hx hb hml hown hE hS hl.1 cyX7_isStep tw936 (c_X7_isStep_0 l g h I n q hq hz x y hxb) ⟨Nat.le_of_ble_eq_true rfl, Nat.le_of_ble_eq_true rfl⟩ ⟨Nat.le_of_ble_eq_true rfl, Nat.le_of_ble_eq_true rfl⟩ (x_recv hK hH (id := [20]) (by first | trivial | (simp only [xD]; omega) | (simp [xD]; done) | (simp [xD]; omega)) (ci := 7) rfl (by decide) rfl) hH rfl rfl (Nat.le_of_ble_eq_true rfl) dX7_flag_4 (fun H locs hH hS => ?_)
  refine lv_if_ne (tgt := 14) hx hb dX7_flag_7 (by decide) (fun q_ => absurd (by decide) q_) (fun _ => ?_)
  refine lv_iconst (v := 1) hx hb dX7_flag_10 (by decide) ?_
  refine lv_goto (tgt := 44) hx hb dX7_flag_11 (by decide) ?_
  obtain ⟨I1_, hI1_⟩ : ∃ z, z = up I [20] 23 1 := ⟨_, rfl⟩
  refine x_put (C := RX7) (T := TX7) (N := 24) (ci := 7) hx hb hts iu7 tyX7 tyX7_ok nmX7 hown hK hH hS (id := [20]) (by first | trivial | (simp only [xD]; omega) | (simp [xD]; done) | (simp [xD]; omega)) rfl rfl (by decide) 23 (by decide) (hts _ tw862) (fun _ h9 => h9) (Or.inl rfl) (ty := .int) (v := .int 1) (by decide +kernel) rfl rfl (I' := I1_) (F' := (xFh h)) (fun i hi => by rw [hI1_]; exact up_id hi) (fun _ _ => rfl) (fun j9 => by rw [hI1_, up_row]; exact xv_upd (ci := 7) (k := 23) rfl j9) dX7_flag_44 (fun H locs hH hS => ?_)
  refine lv_aload_n hx hb dX7_flag_47 rfl (lv_at hl 0 rfl) ?_
  refine x_get (C := RX7) (T := TX7) (N := 24) (ci := 7) hx hb hts iu7 hown hK hH (id := [20]) (by first | trivial | (simp only [xD]; omega) | (simp [xD]; done) | (simp [xD]; omega)) rfl rfl (by decide) 23 (by decide) (hts _ tw862) (fun _ h9 => h9) rfl (v := .int 1) (congrArg Value.int (by rw [hI1_]; exact up_at)) dX7_flag_48 ?_
  refine lv_if_le (tgt := 56) hx hb dX7_flag_51 (by decide) (fun q_ => absurd q_ (by decide)) (fun _ => ?_)
  refine lv_iconst (v := 0) hx hb dX7_flag_54 (by decide) ?_
  exact x_zret hx hb hr hlocks hS dX7_flag_55 rfl rfl (by rw [hI1_] at hH; exact hH)

set_option maxHeartbeats 1000000 in
set_option maxRecDepth 100000 in
theorem c_X7_flag_s (l : Launch) (g : xG) (h : xS) (I : xI) (n : Nat) (q : Nat) (hq : q ≤ 3) (hz : I [20] 10 = nI q) (p : Nat) (hp : p < q) (k : Nat) (hk : k ≤ 8) (hs : I [24, 8] p = nI k) (y kd v : Int32) (hy : sIn y 0 (nI k) = false) : xM l yX7_flag (xws yX7_flag cX7_flag 6 (some FieldType.boolean)) 4 77 g [.ref (ga g [20]), .int (nI p), .int y, .int kd, .int v] (xR g (xD h) I (xFh h) n) (some (.int 0)) (xR g (xD h) (up I [20] 23 1) (xFh h) n) 0 0 := by
  refine xM.of (by decide) (Nat.le_of_ble_eq_true rfl) ?_
  intro P_ e_ s m_ bl_ mt_ cd_ ls hx hb hr hown hlocks hml hnm hE hK hts hH hS hl
  have hl : lv_has ls 6 [(0, .ref (ga g [20])), (1, .int (nI p)), (2, .int y), (3, .int kd), (4, .int v)] := hl
  refine lv_aload_n hx hb dX7_flag_0 rfl (lv_at hl 0 rfl) ?_
  refine lv_aload_n hx hb dX7_flag_1 rfl (lv_at hl 0 rfl) ?_
  refine lv_iload_n hx hb dX7_flag_2 rfl (lv_at hl 1 rfl) ?_
  refine lv_iload_n hx hb dX7_flag_3 rfl (lv_at hl 2 rfl) ?_
  refine x_V1 hx hb hml hown hE hS hl.1 cyX7_isStep tw936 (c_X7_isStep_1 l g h I n q hq hz p hp k hk hs y) ⟨Nat.le_of_ble_eq_true rfl, Nat.le_of_ble_eq_true rfl⟩ ⟨Nat.le_of_ble_eq_true rfl, Nat.le_of_ble_eq_true rfl⟩ (x_recv hK hH (id := [20]) (by first | trivial | (simp only [xD]; omega) | (simp [xD]; done) | (simp [xD]; omega)) (ci := 7) rfl (by decide) rfl) hH rfl rfl (Nat.le_of_ble_eq_true rfl) dX7_flag_4 (fun H locs hH hS => ?_)
  refine lv_if_ne (tgt := 14) hx hb dX7_flag_7 (by decide) (fun q_ => absurd q_ (fun z_ => z_ ((b01_eq0 _).mpr hy))) (fun _ => ?_)
  refine lv_iconst (v := 1) hx hb dX7_flag_10 (by decide) ?_
  refine lv_goto (tgt := 44) hx hb dX7_flag_11 (by decide) ?_
  obtain ⟨I1_, hI1_⟩ : ∃ z, z = up I [20] 23 1 := ⟨_, rfl⟩
  refine x_put (C := RX7) (T := TX7) (N := 24) (ci := 7) hx hb hts iu7 tyX7 tyX7_ok nmX7 hown hK hH hS (id := [20]) (by first | trivial | (simp only [xD]; omega) | (simp [xD]; done) | (simp [xD]; omega)) rfl rfl (by decide) 23 (by decide) (hts _ tw862) (fun _ h9 => h9) (Or.inl rfl) (ty := .int) (v := .int 1) (by decide +kernel) rfl rfl (I' := I1_) (F' := (xFh h)) (fun i hi => by rw [hI1_]; exact up_id hi) (fun _ _ => rfl) (fun j9 => by rw [hI1_, up_row]; exact xv_upd (ci := 7) (k := 23) rfl j9) dX7_flag_44 (fun H locs hH hS => ?_)
  refine lv_aload_n hx hb dX7_flag_47 rfl (lv_at hl 0 rfl) ?_
  refine x_get (C := RX7) (T := TX7) (N := 24) (ci := 7) hx hb hts iu7 hown hK hH (id := [20]) (by first | trivial | (simp only [xD]; omega) | (simp [xD]; done) | (simp [xD]; omega)) rfl rfl (by decide) 23 (by decide) (hts _ tw862) (fun _ h9 => h9) rfl (v := .int 1) (congrArg Value.int (by rw [hI1_]; exact up_at)) dX7_flag_48 ?_
  refine lv_if_le (tgt := 56) hx hb dX7_flag_51 (by decide) (fun q_ => absurd q_ (by decide)) (fun _ => ?_)
  refine lv_iconst (v := 0) hx hb dX7_flag_54 (by decide) ?_
  exact x_zret hx hb hr hlocks hS dX7_flag_55 rfl rfl (by rw [hI1_] at hH; exact hH)

set_option maxHeartbeats 1000000 in
set_option maxRecDepth 100000 in
theorem c_X7_flag_k (l : Launch) (g : xG) (h : xS) (I : xI) (n : Nat) (q : Nat) (hq : q ≤ 3) (hz : I [20] 10 = nI q) (p : Nat) (hp : p < q) (k : Nat) (hk : k ≤ 8) (hs : I [24, 8] p = nI k) (j : Nat) (hj : j < k) (kd v : Int32) (hk9 : ¬ I [22, 0, p] j = kd) : xM l yX7_flag (xws yX7_flag cX7_flag 6 (some FieldType.boolean)) 4 77 g [.ref (ga g [20]), .int (nI p), .int (nI j), .int kd, .int v] (xR g (xD h) I (xFh h) n) (some (.int 0)) (xR g (xD h) (up I [20] 23 2) (xFh h) n) 0 0 := by
  refine xM.of (by decide) (Nat.le_of_ble_eq_true rfl) ?_
  intro P_ e_ s m_ bl_ mt_ cd_ ls hx hb hr hown hlocks hml hnm hE hK hts hH hS hl
  have hl : lv_has ls 6 [(0, .ref (ga g [20])), (1, .int (nI p)), (2, .int (nI j)), (3, .int kd), (4, .int v)] := hl
  refine lv_aload_n hx hb dX7_flag_0 rfl (lv_at hl 0 rfl) ?_
  refine lv_aload_n hx hb dX7_flag_1 rfl (lv_at hl 0 rfl) ?_
  refine lv_iload_n hx hb dX7_flag_2 rfl (lv_at hl 1 rfl) ?_
  refine lv_iload_n hx hb dX7_flag_3 rfl (lv_at hl 2 rfl) ?_
  refine x_V1 hx hb hml hown hE hS hl.1 cyX7_isStep tw936 (c_X7_isStep_1 l g h I n q hq hz p hp k hk hs ((nI j))) ⟨Nat.le_of_ble_eq_true rfl, Nat.le_of_ble_eq_true rfl⟩ ⟨Nat.le_of_ble_eq_true rfl, Nat.le_of_ble_eq_true rfl⟩ (x_recv hK hH (id := [20]) (by first | trivial | (simp only [xD]; omega) | (simp [xD]; done) | (simp [xD]; omega)) (ci := 7) rfl (by decide) rfl) hH rfl rfl (Nat.le_of_ble_eq_true rfl) dX7_flag_4 (fun H locs hH hS => ?_)
  refine lv_if_ne (tgt := 14) hx hb dX7_flag_7 (by decide) (fun _ => ?_) (fun q_ => absurd q_ (fun z_ => by rw [sIn_nI hj (by omega)] at z_; exact absurd z_ (by decide)))
  refine lv_aload_n hx hb dX7_flag_14 rfl (lv_at hl 0 rfl) ?_
  refine x_get (C := RX7) (T := TX7) (N := 24) (ci := 7) hx hb hts iu7 hown hK hH (id := [20]) (by first | trivial | (simp only [xD]; omega) | (simp [xD]; done) | (simp [xD]; omega)) rfl rfl (by decide) 0 (by decide) (hts _ tw839) (fun _ h9 => h9) rfl (v := .ref (ga g [21, 0])) rfl dX7_flag_15 ?_
  refine lv_iload_n hx hb dX7_flag_18 rfl (lv_at hl 1 rfl) ?_
  refine x_aald hx hb hK hH (id := [21, 0]) (by first | trivial | (simp only [xD]; omega) | (simp [xD]; done) | (simp [xD]; omega)) 8 (L := 3) rfl (by decide) p rfl (by omega) (by decide) (v := .ref (ga g [22, 0, p])) (by show rq _ (if _ then _ else _) = _; rw [if_pos (show p < xLn 0 by show _ < 3; omega)]; rfl) dX7_flag_19 ?_
  refine lv_iload_n hx hb dX7_flag_20 rfl (lv_at hl 2 rfl) ?_
  refine x_cald hx hb hK hH (id := [22, 0, p]) (by first | trivial | (simp only [xD]; omega) | (simp [xD]; done) | (simp [xD]; omega)) (L := 8) rfl rfl j rfl (by omega) (by decide) dX7_flag_21 ?_
  refine lv_iload_n hx hb dX7_flag_22 rfl (lv_at hl 3 rfl) ?_
  refine lv_icmp_eq (tgt := 30) hx hb dX7_flag_23 (by decide) (fun q_ => absurd q_ hk9) (fun _ => ?_)
  refine lv_iconst (v := 2) hx hb dX7_flag_26 (by decide) ?_
  refine lv_goto (tgt := 44) hx hb dX7_flag_27 (by decide) ?_
  obtain ⟨I1_, hI1_⟩ : ∃ z, z = up I [20] 23 2 := ⟨_, rfl⟩
  refine x_put (C := RX7) (T := TX7) (N := 24) (ci := 7) hx hb hts iu7 tyX7 tyX7_ok nmX7 hown hK hH hS (id := [20]) (by first | trivial | (simp only [xD]; omega) | (simp [xD]; done) | (simp [xD]; omega)) rfl rfl (by decide) 23 (by decide) (hts _ tw862) (fun _ h9 => h9) (Or.inl rfl) (ty := .int) (v := .int 2) (by decide +kernel) rfl rfl (I' := I1_) (F' := (xFh h)) (fun i hi => by rw [hI1_]; exact up_id hi) (fun _ _ => rfl) (fun j9 => by rw [hI1_, up_row]; exact xv_upd (ci := 7) (k := 23) rfl j9) dX7_flag_44 (fun H locs hH hS => ?_)
  refine lv_aload_n hx hb dX7_flag_47 rfl (lv_at hl 0 rfl) ?_
  refine x_get (C := RX7) (T := TX7) (N := 24) (ci := 7) hx hb hts iu7 hown hK hH (id := [20]) (by first | trivial | (simp only [xD]; omega) | (simp [xD]; done) | (simp [xD]; omega)) rfl rfl (by decide) 23 (by decide) (hts _ tw862) (fun _ h9 => h9) rfl (v := .int 2) (congrArg Value.int (by rw [hI1_]; exact up_at)) dX7_flag_48 ?_
  refine lv_if_le (tgt := 56) hx hb dX7_flag_51 (by decide) (fun q_ => absurd q_ (by decide)) (fun _ => ?_)
  refine lv_iconst (v := 0) hx hb dX7_flag_54 (by decide) ?_
  exact x_zret hx hb hr hlocks hS dX7_flag_55 rfl rfl (by rw [hI1_] at hH; exact hH)

set_option maxHeartbeats 1000000 in
set_option maxRecDepth 100000 in
theorem c_X7_flag_u (l : Launch) (g : xG) (h : xS) (I : xI) (n : Nat) (q : Nat) (hq : q ≤ 3) (hz : I [20] 10 = nI q) (p : Nat) (hp : p < q) (k : Nat) (hk : k ≤ 8) (hs : I [24, 8] p = nI k) (j : Nat) (hj : j < k) (kd v : Int32) (hk9 : I [22, 0, p] j = kd) (hu : ¬ I [24, 9] p = 0) : xM l yX7_flag (xws yX7_flag cX7_flag 6 (some FieldType.boolean)) 4 77 g [.ref (ga g [20]), .int (nI p), .int (nI j), .int kd, .int v] (xR g (xD h) I (xFh h) n) (some (.int 0)) (xR g (xD h) (up I [20] 23 3) (xFh h) n) 0 0 := by
  refine xM.of (by decide) (Nat.le_of_ble_eq_true rfl) ?_
  intro P_ e_ s m_ bl_ mt_ cd_ ls hx hb hr hown hlocks hml hnm hE hK hts hH hS hl
  have hl : lv_has ls 6 [(0, .ref (ga g [20])), (1, .int (nI p)), (2, .int (nI j)), (3, .int kd), (4, .int v)] := hl
  refine lv_aload_n hx hb dX7_flag_0 rfl (lv_at hl 0 rfl) ?_
  refine lv_aload_n hx hb dX7_flag_1 rfl (lv_at hl 0 rfl) ?_
  refine lv_iload_n hx hb dX7_flag_2 rfl (lv_at hl 1 rfl) ?_
  refine lv_iload_n hx hb dX7_flag_3 rfl (lv_at hl 2 rfl) ?_
  refine x_V1 hx hb hml hown hE hS hl.1 cyX7_isStep tw936 (c_X7_isStep_1 l g h I n q hq hz p hp k hk hs ((nI j))) ⟨Nat.le_of_ble_eq_true rfl, Nat.le_of_ble_eq_true rfl⟩ ⟨Nat.le_of_ble_eq_true rfl, Nat.le_of_ble_eq_true rfl⟩ (x_recv hK hH (id := [20]) (by first | trivial | (simp only [xD]; omega) | (simp [xD]; done) | (simp [xD]; omega)) (ci := 7) rfl (by decide) rfl) hH rfl rfl (Nat.le_of_ble_eq_true rfl) dX7_flag_4 (fun H locs hH hS => ?_)
  refine lv_if_ne (tgt := 14) hx hb dX7_flag_7 (by decide) (fun _ => ?_) (fun q_ => absurd q_ (fun z_ => by rw [sIn_nI hj (by omega)] at z_; exact absurd z_ (by decide)))
  refine lv_aload_n hx hb dX7_flag_14 rfl (lv_at hl 0 rfl) ?_
  refine x_get (C := RX7) (T := TX7) (N := 24) (ci := 7) hx hb hts iu7 hown hK hH (id := [20]) (by first | trivial | (simp only [xD]; omega) | (simp [xD]; done) | (simp [xD]; omega)) rfl rfl (by decide) 0 (by decide) (hts _ tw839) (fun _ h9 => h9) rfl (v := .ref (ga g [21, 0])) rfl dX7_flag_15 ?_
  refine lv_iload_n hx hb dX7_flag_18 rfl (lv_at hl 1 rfl) ?_
  refine x_aald hx hb hK hH (id := [21, 0]) (by first | trivial | (simp only [xD]; omega) | (simp [xD]; done) | (simp [xD]; omega)) 8 (L := 3) rfl (by decide) p rfl (by omega) (by decide) (v := .ref (ga g [22, 0, p])) (by show rq _ (if _ then _ else _) = _; rw [if_pos (show p < xLn 0 by show _ < 3; omega)]; rfl) dX7_flag_19 ?_
  refine lv_iload_n hx hb dX7_flag_20 rfl (lv_at hl 2 rfl) ?_
  refine x_cald hx hb hK hH (id := [22, 0, p]) (by first | trivial | (simp only [xD]; omega) | (simp [xD]; done) | (simp [xD]; omega)) (L := 8) rfl rfl j rfl (by omega) (by decide) dX7_flag_21 ?_
  refine lv_iload_n hx hb dX7_flag_22 rfl (lv_at hl 3 rfl) ?_
  refine lv_icmp_eq (tgt := 30) hx hb dX7_flag_23 (by decide) (fun _ => ?_) (fun q_ => absurd hk9 q_)
  refine lv_aload_n hx hb dX7_flag_30 rfl (lv_at hl 0 rfl) ?_
  refine x_get (C := RX7) (T := TX7) (N := 24) (ci := 7) hx hb hts iu7 hown hK hH (id := [20]) (by first | trivial | (simp only [xD]; omega) | (simp [xD]; done) | (simp [xD]; omega)) rfl rfl (by decide) 9 (by decide) (hts _ tw848) (fun _ h9 => h9) rfl (v := .ref (ga g [24, 9])) rfl dX7_flag_31 ?_
  refine lv_iload_n hx hb dX7_flag_34 rfl (lv_at hl 1 rfl) ?_
  refine x_bald hx hb hK hH (id := [24, 9]) (by first | trivial | (simp only [xD]; omega) | (simp [xD]; done) | (simp [xD]; omega)) (L := 3) rfl rfl p rfl (by omega) (by decide) dX7_flag_35 ?_
  refine lv_if_eq (tgt := 43) hx hb dX7_flag_36 (by decide) (fun q_ => absurd q_ hu) (fun _ => ?_)
  refine lv_iconst (v := 3) hx hb dX7_flag_39 (by decide) ?_
  refine lv_goto (tgt := 44) hx hb dX7_flag_40 (by decide) ?_
  obtain ⟨I1_, hI1_⟩ : ∃ z, z = up I [20] 23 3 := ⟨_, rfl⟩
  refine x_put (C := RX7) (T := TX7) (N := 24) (ci := 7) hx hb hts iu7 tyX7 tyX7_ok nmX7 hown hK hH hS (id := [20]) (by first | trivial | (simp only [xD]; omega) | (simp [xD]; done) | (simp [xD]; omega)) rfl rfl (by decide) 23 (by decide) (hts _ tw862) (fun _ h9 => h9) (Or.inl rfl) (ty := .int) (v := .int 3) (by decide +kernel) rfl rfl (I' := I1_) (F' := (xFh h)) (fun i hi => by rw [hI1_]; exact up_id hi) (fun _ _ => rfl) (fun j9 => by rw [hI1_, up_row]; exact xv_upd (ci := 7) (k := 23) rfl j9) dX7_flag_44 (fun H locs hH hS => ?_)
  refine lv_aload_n hx hb dX7_flag_47 rfl (lv_at hl 0 rfl) ?_
  refine x_get (C := RX7) (T := TX7) (N := 24) (ci := 7) hx hb hts iu7 hown hK hH (id := [20]) (by first | trivial | (simp only [xD]; omega) | (simp [xD]; done) | (simp [xD]; omega)) rfl rfl (by decide) 23 (by decide) (hts _ tw862) (fun _ h9 => h9) rfl (v := .int 3) (congrArg Value.int (by rw [hI1_]; exact up_at)) dX7_flag_48 ?_
  refine lv_if_le (tgt := 56) hx hb dX7_flag_51 (by decide) (fun q_ => absurd q_ (by decide)) (fun _ => ?_)
  refine lv_iconst (v := 0) hx hb dX7_flag_54 (by decide) ?_
  exact x_zret hx hb hr hlocks hS dX7_flag_55 rfl rfl (by rw [hI1_] at hH; exact hH)

set_option maxHeartbeats 1000000 in
set_option maxRecDepth 100000 in
theorem c_X7_flag (l : Launch) (g : xG) (h : xS) (I : xI) (n : Nat) (q : Nat) (hq : q ≤ 3) (hz : I [20] 10 = nI q) (p : Nat) (hp : p < q) (k : Nat) (hk : k ≤ 8) (hs : I [24, 8] p = nI k) (j : Nat) (hj : j < k) (kd v : Int32) (hk9 : I [22, 0, p] j = kd) (hu : I [24, 9] p = 0) (hv : sBo v) (hv2 : sBo (I [22, 2, p] j)) : xM l yX7_flag (xws yX7_flag cX7_flag 6 (some FieldType.boolean)) 4 77 g [.ref (ga g [20]), .int (nI p), .int (nI j), .int kd, .int v] (xR g (xD h) I (xFh h) n) (some (.int (I [22, 2, p] j))) (xR g (xD h) (up (up I [20] 23 0) [22, 2, p] j v) (xFh h) n) 0 0 := by
  refine xM.of (by decide) (Nat.le_of_ble_eq_true rfl) ?_
  intro P_ e_ s m_ bl_ mt_ cd_ ls hx hb hr hown hlocks hml hnm hE hK hts hH hS hl
  have hl : lv_has ls 6 [(0, .ref (ga g [20])), (1, .int (nI p)), (2, .int (nI j)), (3, .int kd), (4, .int v)] := hl
  refine lv_aload_n hx hb dX7_flag_0 rfl (lv_at hl 0 rfl) ?_
  refine lv_aload_n hx hb dX7_flag_1 rfl (lv_at hl 0 rfl) ?_
  refine lv_iload_n hx hb dX7_flag_2 rfl (lv_at hl 1 rfl) ?_
  refine lv_iload_n hx hb dX7_flag_3 rfl (lv_at hl 2 rfl) ?_
  refine x_V1 hx hb hml hown hE hS hl.1 cyX7_isStep tw936 (c_X7_isStep_1 l g h I n q hq hz p hp k hk hs ((nI j))) ⟨Nat.le_of_ble_eq_true rfl, Nat.le_of_ble_eq_true rfl⟩ ⟨Nat.le_of_ble_eq_true rfl, Nat.le_of_ble_eq_true rfl⟩ (x_recv hK hH (id := [20]) (by first | trivial | (simp only [xD]; omega) | (simp [xD]; done) | (simp [xD]; omega)) (ci := 7) rfl (by decide) rfl) hH rfl rfl (Nat.le_of_ble_eq_true rfl) dX7_flag_4 (fun H locs hH hS => ?_)
  refine lv_if_ne (tgt := 14) hx hb dX7_flag_7 (by decide) (fun _ => ?_) (fun q_ => absurd q_ (fun z_ => by rw [sIn_nI hj (by omega)] at z_; exact absurd z_ (by decide)))
  refine lv_aload_n hx hb dX7_flag_14 rfl (lv_at hl 0 rfl) ?_
  refine x_get (C := RX7) (T := TX7) (N := 24) (ci := 7) hx hb hts iu7 hown hK hH (id := [20]) (by first | trivial | (simp only [xD]; omega) | (simp [xD]; done) | (simp [xD]; omega)) rfl rfl (by decide) 0 (by decide) (hts _ tw839) (fun _ h9 => h9) rfl (v := .ref (ga g [21, 0])) rfl dX7_flag_15 ?_
  refine lv_iload_n hx hb dX7_flag_18 rfl (lv_at hl 1 rfl) ?_
  refine x_aald hx hb hK hH (id := [21, 0]) (by first | trivial | (simp only [xD]; omega) | (simp [xD]; done) | (simp [xD]; omega)) 8 (L := 3) rfl (by decide) p rfl (by omega) (by decide) (v := .ref (ga g [22, 0, p])) (by show rq _ (if _ then _ else _) = _; rw [if_pos (show p < xLn 0 by show _ < 3; omega)]; rfl) dX7_flag_19 ?_
  refine lv_iload_n hx hb dX7_flag_20 rfl (lv_at hl 2 rfl) ?_
  refine x_cald hx hb hK hH (id := [22, 0, p]) (by first | trivial | (simp only [xD]; omega) | (simp [xD]; done) | (simp [xD]; omega)) (L := 8) rfl rfl j rfl (by omega) (by decide) dX7_flag_21 ?_
  refine lv_iload_n hx hb dX7_flag_22 rfl (lv_at hl 3 rfl) ?_
  refine lv_icmp_eq (tgt := 30) hx hb dX7_flag_23 (by decide) (fun _ => ?_) (fun q_ => absurd hk9 q_)
  refine lv_aload_n hx hb dX7_flag_30 rfl (lv_at hl 0 rfl) ?_
  refine x_get (C := RX7) (T := TX7) (N := 24) (ci := 7) hx hb hts iu7 hown hK hH (id := [20]) (by first | trivial | (simp only [xD]; omega) | (simp [xD]; done) | (simp [xD]; omega)) rfl rfl (by decide) 9 (by decide) (hts _ tw848) (fun _ h9 => h9) rfl (v := .ref (ga g [24, 9])) rfl dX7_flag_31 ?_
  refine lv_iload_n hx hb dX7_flag_34 rfl (lv_at hl 1 rfl) ?_
  refine x_bald hx hb hK hH (id := [24, 9]) (by first | trivial | (simp only [xD]; omega) | (simp [xD]; done) | (simp [xD]; omega)) (L := 3) rfl rfl p rfl (by omega) (by decide) dX7_flag_35 ?_
  refine lv_if_eq (tgt := 43) hx hb dX7_flag_36 (by decide) (fun _ => ?_) (fun q_ => absurd hu q_)
  refine lv_iconst (v := 0) hx hb dX7_flag_43 (by decide) ?_
  obtain ⟨I1_, hI1_⟩ : ∃ z, z = up I [20] 23 0 := ⟨_, rfl⟩
  refine x_put (C := RX7) (T := TX7) (N := 24) (ci := 7) hx hb hts iu7 tyX7 tyX7_ok nmX7 hown hK hH hS (id := [20]) (by first | trivial | (simp only [xD]; omega) | (simp [xD]; done) | (simp [xD]; omega)) rfl rfl (by decide) 23 (by decide) (hts _ tw862) (fun _ h9 => h9) (Or.inl rfl) (ty := .int) (v := .int 0) (by decide +kernel) rfl rfl (I' := I1_) (F' := (xFh h)) (fun i hi => by rw [hI1_]; exact up_id hi) (fun _ _ => rfl) (fun j9 => by rw [hI1_, up_row]; exact xv_upd (ci := 7) (k := 23) rfl j9) dX7_flag_44 (fun H locs hH hS => ?_)
  refine lv_aload_n hx hb dX7_flag_47 rfl (lv_at hl 0 rfl) ?_
  refine x_get (C := RX7) (T := TX7) (N := 24) (ci := 7) hx hb hts iu7 hown hK hH (id := [20]) (by first | trivial | (simp only [xD]; omega) | (simp [xD]; done) | (simp [xD]; omega)) rfl rfl (by decide) 23 (by decide) (hts _ tw862) (fun _ h9 => h9) rfl (v := .int 0) (congrArg Value.int (by rw [hI1_]; exact up_at)) dX7_flag_48 ?_
  refine lv_if_le (tgt := 56) hx hb dX7_flag_51 (by decide) (fun _ => ?_) (fun q_ => absurd (by decide) q_)
  refine lv_aload_n hx hb dX7_flag_56 rfl (lv_at hl 0 rfl) ?_
  refine x_get (C := RX7) (T := TX7) (N := 24) (ci := 7) hx hb hts iu7 hown hK hH (id := [20]) (by first | trivial | (simp only [xD]; omega) | (simp [xD]; done) | (simp [xD]; omega)) rfl rfl (by decide) 2 (by decide) (hts _ tw841) (fun _ h9 => h9) rfl (v := .ref (ga g [21, 2])) rfl dX7_flag_57 ?_
  refine lv_iload_n hx hb dX7_flag_60 rfl (lv_at hl 1 rfl) ?_
  refine x_aald hx hb hK hH (id := [21, 2]) (by first | trivial | (simp only [xD]; omega) | (simp [xD]; done) | (simp [xD]; omega)) 9 (L := 3) rfl (by decide) p rfl (by omega) (by decide) (v := .ref (ga g [22, 2, p])) (by show rq _ (if _ then _ else _) = _; rw [if_pos (show p < xLn 2 by show _ < 3; omega)]; rfl) dX7_flag_61 ?_
  refine lv_iload_n hx hb dX7_flag_62 rfl (lv_at hl 2 rfl) ?_
  refine x_bald hx hb hK hH (id := [22, 2, p]) (by first | trivial | (simp only [xD]; omega) | (simp [xD]; done) | (simp [xD]; omega)) (L := 8) rfl rfl j rfl (by omega) (by decide) dX7_flag_63 ?_
  rw [show (I1_ [22, 2, p] j) = (I [22, 2, p] j) from (by first | (rw [hI1_]; simp [up]; done) | (rw [hI1_]; simp [up]; exact rfl) | (rw [hI1_]; simp [up, rfl]; done))]
  refine lv_istore (lv' := [(5, .int (I [22, 2, p] j)), (0, .ref (ga g [20])), (1, .int (nI p)), (2, .int (nI j)), (3, .int kd), (4, .int v)]) hx hb dX7_flag_64 hl (by decide) rfl (fun ls hl => ?_)
  refine lv_aload_n hx hb dX7_flag_66 rfl (lv_at hl 1 rfl) ?_
  refine x_get (C := RX7) (T := TX7) (N := 24) (ci := 7) hx hb hts iu7 hown hK hH (id := [20]) (by first | trivial | (simp only [xD]; omega) | (simp [xD]; done) | (simp [xD]; omega)) rfl rfl (by decide) 2 (by decide) (hts _ tw841) (fun _ h9 => h9) rfl (v := .ref (ga g [21, 2])) rfl dX7_flag_67 ?_
  refine lv_iload_n hx hb dX7_flag_70 rfl (lv_at hl 2 rfl) ?_
  refine x_aald hx hb hK hH (id := [21, 2]) (by first | trivial | (simp only [xD]; omega) | (simp [xD]; done) | (simp [xD]; omega)) 9 (L := 3) rfl (by decide) p rfl (by omega) (by decide) (v := .ref (ga g [22, 2, p])) (by show rq _ (if _ then _ else _) = _; rw [if_pos (show p < xLn 2 by show _ < 3; omega)]; rfl) dX7_flag_71 ?_
  refine lv_iload_n hx hb dX7_flag_72 rfl (lv_at hl 3 rfl) ?_
  refine lv_iload hx hb dX7_flag_73 (lv_at hl 5 rfl) ?_
  obtain ⟨I2_, hI2_⟩ : ∃ z, z = up I1_ [22, 2, p] j v := ⟨_, rfl⟩
  refine x_bast hx hb hK hH hS (id := [22, 2, p]) (by first | trivial | (simp only [xD]; omega) | (simp [xD]; done) | (simp [xD]; omega)) (L := 8) rfl j rfl (by omega) (by decide) hv.nar hI2_.symm dX7_flag_75 (fun H locs hH hS => ?_)
  refine lv_iload hx hb dX7_flag_76 (lv_at hl 0 rfl) ?_
  exact x_zret hx hb hr hlocks hS dX7_flag_78 hv2.nar rfl (by rw [hI2_, hI1_] at hH; exact hH)

set_option maxHeartbeats 1000000 in
set_option maxRecDepth 100000 in
theorem c_X7_setRequired_p (l : Launch) (g : xG) (h : xS) (I : xI) (n : Nat) (q : Nat) (hq : q ≤ 3) (hz : I [20] 10 = nI q) (x y v : Int32) (hxb : sIn x 0 (nI q) = false) : xM l yX7_setRequired (xws yX7_setRequired cX7_setRequired 4 (some FieldType.boolean)) 5 102 g [.ref (ga g [20]), .int x, .int y, .int v] (xR g (xD h) I (xFh h) n) (some (.int 0)) (xR g (xD h) (up I [20] 23 1) (xFh h) n) 0 0 := by
  refine xM.of (by decide) (Nat.le_of_ble_eq_true rfl) ?_
  intro P_ e_ s m_ bl_ mt_ cd_ ls hx hb hr hown hlocks hml hnm hE hK hts hH hS hl
  have hl : lv_has ls 4 [(0, .ref (ga g [20])), (1, .int x), (2, .int y), (3, .int v)] := hl
  refine lv_aload_n hx hb dX7_setRequired_0 rfl (lv_at hl 0 rfl) ?_
  refine lv_iload_n hx hb dX7_setRequired_1 rfl (lv_at hl 1 rfl) ?_
  refine lv_iload_n hx hb dX7_setRequired_2 rfl (lv_at hl 2 rfl) ?_
  refine lv_bipush (v := 116) hx hb dX7_setRequired_3 (by decide) ?_
  refine lv_iload_n hx hb dX7_setRequired_5 rfl (lv_at hl 3 rfl) ?_
  refine x_V1 hx hb hml hown hE hS hl.1 cyX7_flag tw960 (c_X7_flag_p l g h I n q hq hz x y 116 v hxb) ⟨Nat.le_of_ble_eq_true rfl, Nat.le_of_ble_eq_true rfl⟩ ⟨Nat.le_of_ble_eq_true rfl, Nat.le_of_ble_eq_true rfl⟩ (x_recv hK hH (id := [20]) (by first | trivial | (simp only [xD]; omega) | (simp [xD]; done) | (simp [xD]; omega)) (ci := 7) rfl (by decide) rfl) hH rfl rfl (Nat.le_of_ble_eq_true rfl) dX7_setRequired_6 (fun H locs hH hS => ?_)
  exact x_zret hx hb hr hlocks hS dX7_setRequired_9 rfl rfl hH

set_option maxHeartbeats 1000000 in
set_option maxRecDepth 100000 in
theorem c_X7_setRequired_s (l : Launch) (g : xG) (h : xS) (I : xI) (n : Nat) (q : Nat) (hq : q ≤ 3) (hz : I [20] 10 = nI q) (p : Nat) (hp : p < q) (k : Nat) (hk : k ≤ 8) (hs : I [24, 8] p = nI k) (y v : Int32) (hy : sIn y 0 (nI k) = false) : xM l yX7_setRequired (xws yX7_setRequired cX7_setRequired 4 (some FieldType.boolean)) 5 102 g [.ref (ga g [20]), .int (nI p), .int y, .int v] (xR g (xD h) I (xFh h) n) (some (.int 0)) (xR g (xD h) (up I [20] 23 1) (xFh h) n) 0 0 := by
  refine xM.of (by decide) (Nat.le_of_ble_eq_true rfl) ?_
  intro P_ e_ s m_ bl_ mt_ cd_ ls hx hb hr hown hlocks hml hnm hE hK hts hH hS hl
  have hl : lv_has ls 4 [(0, .ref (ga g [20])), (1, .int (nI p)), (2, .int y), (3, .int v)] := hl
  refine lv_aload_n hx hb dX7_setRequired_0 rfl (lv_at hl 0 rfl) ?_
  refine lv_iload_n hx hb dX7_setRequired_1 rfl (lv_at hl 1 rfl) ?_
  refine lv_iload_n hx hb dX7_setRequired_2 rfl (lv_at hl 2 rfl) ?_
  refine lv_bipush (v := 116) hx hb dX7_setRequired_3 (by decide) ?_
  refine lv_iload_n hx hb dX7_setRequired_5 rfl (lv_at hl 3 rfl) ?_
  refine x_V1 hx hb hml hown hE hS hl.1 cyX7_flag tw960 (c_X7_flag_s l g h I n q hq hz p hp k hk hs y 116 v hy) ⟨Nat.le_of_ble_eq_true rfl, Nat.le_of_ble_eq_true rfl⟩ ⟨Nat.le_of_ble_eq_true rfl, Nat.le_of_ble_eq_true rfl⟩ (x_recv hK hH (id := [20]) (by first | trivial | (simp only [xD]; omega) | (simp [xD]; done) | (simp [xD]; omega)) (ci := 7) rfl (by decide) rfl) hH rfl rfl (Nat.le_of_ble_eq_true rfl) dX7_setRequired_6 (fun H locs hH hS => ?_)
  exact x_zret hx hb hr hlocks hS dX7_setRequired_9 rfl rfl hH

set_option maxHeartbeats 1000000 in
set_option maxRecDepth 100000 in
theorem c_X7_setRequired_k (l : Launch) (g : xG) (h : xS) (I : xI) (n : Nat) (q : Nat) (hq : q ≤ 3) (hz : I [20] 10 = nI q) (p : Nat) (hp : p < q) (k : Nat) (hk : k ≤ 8) (hs : I [24, 8] p = nI k) (j : Nat) (hj : j < k) (v : Int32) (hk9 : ¬ I [22, 0, p] j = 116) : xM l yX7_setRequired (xws yX7_setRequired cX7_setRequired 4 (some FieldType.boolean)) 5 102 g [.ref (ga g [20]), .int (nI p), .int (nI j), .int v] (xR g (xD h) I (xFh h) n) (some (.int 0)) (xR g (xD h) (up I [20] 23 2) (xFh h) n) 0 0 := by
  refine xM.of (by decide) (Nat.le_of_ble_eq_true rfl) ?_
  intro P_ e_ s m_ bl_ mt_ cd_ ls hx hb hr hown hlocks hml hnm hE hK hts hH hS hl
  have hl : lv_has ls 4 [(0, .ref (ga g [20])), (1, .int (nI p)), (2, .int (nI j)), (3, .int v)] := hl
  refine lv_aload_n hx hb dX7_setRequired_0 rfl (lv_at hl 0 rfl) ?_
  refine lv_iload_n hx hb dX7_setRequired_1 rfl (lv_at hl 1 rfl) ?_
  refine lv_iload_n hx hb dX7_setRequired_2 rfl (lv_at hl 2 rfl) ?_
  refine lv_bipush (v := 116) hx hb dX7_setRequired_3 (by decide) ?_
  refine lv_iload_n hx hb dX7_setRequired_5 rfl (lv_at hl 3 rfl) ?_
  refine x_V1 hx hb hml hown hE hS hl.1 cyX7_flag tw960 (c_X7_flag_k l g h I n q hq hz p hp k hk hs j hj 116 v hk9) ⟨Nat.le_of_ble_eq_true rfl, Nat.le_of_ble_eq_true rfl⟩ ⟨Nat.le_of_ble_eq_true rfl, Nat.le_of_ble_eq_true rfl⟩ (x_recv hK hH (id := [20]) (by first | trivial | (simp only [xD]; omega) | (simp [xD]; done) | (simp [xD]; omega)) (ci := 7) rfl (by decide) rfl) hH rfl rfl (Nat.le_of_ble_eq_true rfl) dX7_setRequired_6 (fun H locs hH hS => ?_)
  exact x_zret hx hb hr hlocks hS dX7_setRequired_9 rfl rfl hH

set_option maxHeartbeats 1000000 in
set_option maxRecDepth 100000 in
theorem c_X7_setRequired_u (l : Launch) (g : xG) (h : xS) (I : xI) (n : Nat) (q : Nat) (hq : q ≤ 3) (hz : I [20] 10 = nI q) (p : Nat) (hp : p < q) (k : Nat) (hk : k ≤ 8) (hs : I [24, 8] p = nI k) (j : Nat) (hj : j < k) (v : Int32) (hk9 : I [22, 0, p] j = 116) (hu : ¬ I [24, 9] p = 0) : xM l yX7_setRequired (xws yX7_setRequired cX7_setRequired 4 (some FieldType.boolean)) 5 102 g [.ref (ga g [20]), .int (nI p), .int (nI j), .int v] (xR g (xD h) I (xFh h) n) (some (.int 0)) (xR g (xD h) (up I [20] 23 3) (xFh h) n) 0 0 := by
  refine xM.of (by decide) (Nat.le_of_ble_eq_true rfl) ?_
  intro P_ e_ s m_ bl_ mt_ cd_ ls hx hb hr hown hlocks hml hnm hE hK hts hH hS hl
  have hl : lv_has ls 4 [(0, .ref (ga g [20])), (1, .int (nI p)), (2, .int (nI j)), (3, .int v)] := hl
  refine lv_aload_n hx hb dX7_setRequired_0 rfl (lv_at hl 0 rfl) ?_
  refine lv_iload_n hx hb dX7_setRequired_1 rfl (lv_at hl 1 rfl) ?_
  refine lv_iload_n hx hb dX7_setRequired_2 rfl (lv_at hl 2 rfl) ?_
  refine lv_bipush (v := 116) hx hb dX7_setRequired_3 (by decide) ?_
  refine lv_iload_n hx hb dX7_setRequired_5 rfl (lv_at hl 3 rfl) ?_
  refine x_V1 hx hb hml hown hE hS hl.1 cyX7_flag tw960 (c_X7_flag_u l g h I n q hq hz p hp k hk hs j hj 116 v hk9 hu) ⟨Nat.le_of_ble_eq_true rfl, Nat.le_of_ble_eq_true rfl⟩ ⟨Nat.le_of_ble_eq_true rfl, Nat.le_of_ble_eq_true rfl⟩ (x_recv hK hH (id := [20]) (by first | trivial | (simp only [xD]; omega) | (simp [xD]; done) | (simp [xD]; omega)) (ci := 7) rfl (by decide) rfl) hH rfl rfl (Nat.le_of_ble_eq_true rfl) dX7_setRequired_6 (fun H locs hH hS => ?_)
  exact x_zret hx hb hr hlocks hS dX7_setRequired_9 rfl rfl hH

set_option maxHeartbeats 1000000 in
set_option maxRecDepth 100000 in
theorem c_X7_setRequired (l : Launch) (g : xG) (h : xS) (I : xI) (n : Nat) (q : Nat) (hq : q ≤ 3) (hz : I [20] 10 = nI q) (p : Nat) (hp : p < q) (k : Nat) (hk : k ≤ 8) (hs : I [24, 8] p = nI k) (j : Nat) (hj : j < k) (v : Int32) (hk9 : I [22, 0, p] j = 116) (hu : I [24, 9] p = 0) (hv : sBo v) (hv2 : sBo (I [22, 2, p] j)) : xM l yX7_setRequired (xws yX7_setRequired cX7_setRequired 4 (some FieldType.boolean)) 5 102 g [.ref (ga g [20]), .int (nI p), .int (nI j), .int v] (xR g (xD h) I (xFh h) n) (some (.int (I [22, 2, p] j))) (xR g (xD h) (up (up I [20] 23 0) [22, 2, p] j v) (xFh h) n) 0 0 := by
  refine xM.of (by decide) (Nat.le_of_ble_eq_true rfl) ?_
  intro P_ e_ s m_ bl_ mt_ cd_ ls hx hb hr hown hlocks hml hnm hE hK hts hH hS hl
  have hl : lv_has ls 4 [(0, .ref (ga g [20])), (1, .int (nI p)), (2, .int (nI j)), (3, .int v)] := hl
  refine lv_aload_n hx hb dX7_setRequired_0 rfl (lv_at hl 0 rfl) ?_
  refine lv_iload_n hx hb dX7_setRequired_1 rfl (lv_at hl 1 rfl) ?_
  refine lv_iload_n hx hb dX7_setRequired_2 rfl (lv_at hl 2 rfl) ?_
  refine lv_bipush (v := 116) hx hb dX7_setRequired_3 (by decide) ?_
  refine lv_iload_n hx hb dX7_setRequired_5 rfl (lv_at hl 3 rfl) ?_
  refine x_V1 hx hb hml hown hE hS hl.1 cyX7_flag tw960 (c_X7_flag l g h I n q hq hz p hp k hk hs j hj 116 v hk9 hu hv hv2) ⟨Nat.le_of_ble_eq_true rfl, Nat.le_of_ble_eq_true rfl⟩ ⟨Nat.le_of_ble_eq_true rfl, Nat.le_of_ble_eq_true rfl⟩ (x_recv hK hH (id := [20]) (by first | trivial | (simp only [xD]; omega) | (simp [xD]; done) | (simp [xD]; omega)) (ci := 7) rfl (by decide) rfl) hH rfl rfl (Nat.le_of_ble_eq_true rfl) dX7_setRequired_6 (fun H locs hH hS => ?_)
  exact x_zret hx hb hr hlocks hS dX7_setRequired_9 hv2.nar rfl hH

set_option maxHeartbeats 1000000 in
set_option maxRecDepth 100000 in
theorem c_X7_setAgain_p (l : Launch) (g : xG) (h : xS) (I : xI) (n : Nat) (q : Nat) (hq : q ≤ 3) (hz : I [20] 10 = nI q) (x y v : Int32) (hxb : sIn x 0 (nI q) = false) : xM l yX7_setAgain (xws yX7_setAgain cX7_setAgain 4 (some FieldType.boolean)) 5 102 g [.ref (ga g [20]), .int x, .int y, .int v] (xR g (xD h) I (xFh h) n) (some (.int 0)) (xR g (xD h) (up I [20] 23 1) (xFh h) n) 0 0 := by
  refine xM.of (by decide) (Nat.le_of_ble_eq_true rfl) ?_
  intro P_ e_ s m_ bl_ mt_ cd_ ls hx hb hr hown hlocks hml hnm hE hK hts hH hS hl
  have hl : lv_has ls 4 [(0, .ref (ga g [20])), (1, .int x), (2, .int y), (3, .int v)] := hl
  refine lv_aload_n hx hb dX7_setAgain_0 rfl (lv_at hl 0 rfl) ?_
  refine lv_iload_n hx hb dX7_setAgain_1 rfl (lv_at hl 1 rfl) ?_
  refine lv_iload_n hx hb dX7_setAgain_2 rfl (lv_at hl 2 rfl) ?_
  refine lv_bipush (v := 109) hx hb dX7_setAgain_3 (by decide) ?_
  refine lv_iload_n hx hb dX7_setAgain_5 rfl (lv_at hl 3 rfl) ?_
  refine x_V1 hx hb hml hown hE hS hl.1 cyX7_flag tw960 (c_X7_flag_p l g h I n q hq hz x y 109 v hxb) ⟨Nat.le_of_ble_eq_true rfl, Nat.le_of_ble_eq_true rfl⟩ ⟨Nat.le_of_ble_eq_true rfl, Nat.le_of_ble_eq_true rfl⟩ (x_recv hK hH (id := [20]) (by first | trivial | (simp only [xD]; omega) | (simp [xD]; done) | (simp [xD]; omega)) (ci := 7) rfl (by decide) rfl) hH rfl rfl (Nat.le_of_ble_eq_true rfl) dX7_setAgain_6 (fun H locs hH hS => ?_)
  exact x_zret hx hb hr hlocks hS dX7_setAgain_9 rfl rfl hH

set_option maxHeartbeats 1000000 in
set_option maxRecDepth 100000 in
theorem c_X7_setAgain_s (l : Launch) (g : xG) (h : xS) (I : xI) (n : Nat) (q : Nat) (hq : q ≤ 3) (hz : I [20] 10 = nI q) (p : Nat) (hp : p < q) (k : Nat) (hk : k ≤ 8) (hs : I [24, 8] p = nI k) (y v : Int32) (hy : sIn y 0 (nI k) = false) : xM l yX7_setAgain (xws yX7_setAgain cX7_setAgain 4 (some FieldType.boolean)) 5 102 g [.ref (ga g [20]), .int (nI p), .int y, .int v] (xR g (xD h) I (xFh h) n) (some (.int 0)) (xR g (xD h) (up I [20] 23 1) (xFh h) n) 0 0 := by
  refine xM.of (by decide) (Nat.le_of_ble_eq_true rfl) ?_
  intro P_ e_ s m_ bl_ mt_ cd_ ls hx hb hr hown hlocks hml hnm hE hK hts hH hS hl
  have hl : lv_has ls 4 [(0, .ref (ga g [20])), (1, .int (nI p)), (2, .int y), (3, .int v)] := hl
  refine lv_aload_n hx hb dX7_setAgain_0 rfl (lv_at hl 0 rfl) ?_
  refine lv_iload_n hx hb dX7_setAgain_1 rfl (lv_at hl 1 rfl) ?_
  refine lv_iload_n hx hb dX7_setAgain_2 rfl (lv_at hl 2 rfl) ?_
  refine lv_bipush (v := 109) hx hb dX7_setAgain_3 (by decide) ?_
  refine lv_iload_n hx hb dX7_setAgain_5 rfl (lv_at hl 3 rfl) ?_
  refine x_V1 hx hb hml hown hE hS hl.1 cyX7_flag tw960 (c_X7_flag_s l g h I n q hq hz p hp k hk hs y 109 v hy) ⟨Nat.le_of_ble_eq_true rfl, Nat.le_of_ble_eq_true rfl⟩ ⟨Nat.le_of_ble_eq_true rfl, Nat.le_of_ble_eq_true rfl⟩ (x_recv hK hH (id := [20]) (by first | trivial | (simp only [xD]; omega) | (simp [xD]; done) | (simp [xD]; omega)) (ci := 7) rfl (by decide) rfl) hH rfl rfl (Nat.le_of_ble_eq_true rfl) dX7_setAgain_6 (fun H locs hH hS => ?_)
  exact x_zret hx hb hr hlocks hS dX7_setAgain_9 rfl rfl hH

set_option maxHeartbeats 1000000 in
set_option maxRecDepth 100000 in
theorem c_X7_setAgain_k (l : Launch) (g : xG) (h : xS) (I : xI) (n : Nat) (q : Nat) (hq : q ≤ 3) (hz : I [20] 10 = nI q) (p : Nat) (hp : p < q) (k : Nat) (hk : k ≤ 8) (hs : I [24, 8] p = nI k) (j : Nat) (hj : j < k) (v : Int32) (hk9 : ¬ I [22, 0, p] j = 109) : xM l yX7_setAgain (xws yX7_setAgain cX7_setAgain 4 (some FieldType.boolean)) 5 102 g [.ref (ga g [20]), .int (nI p), .int (nI j), .int v] (xR g (xD h) I (xFh h) n) (some (.int 0)) (xR g (xD h) (up I [20] 23 2) (xFh h) n) 0 0 := by
  refine xM.of (by decide) (Nat.le_of_ble_eq_true rfl) ?_
  intro P_ e_ s m_ bl_ mt_ cd_ ls hx hb hr hown hlocks hml hnm hE hK hts hH hS hl
  have hl : lv_has ls 4 [(0, .ref (ga g [20])), (1, .int (nI p)), (2, .int (nI j)), (3, .int v)] := hl
  refine lv_aload_n hx hb dX7_setAgain_0 rfl (lv_at hl 0 rfl) ?_
  refine lv_iload_n hx hb dX7_setAgain_1 rfl (lv_at hl 1 rfl) ?_
  refine lv_iload_n hx hb dX7_setAgain_2 rfl (lv_at hl 2 rfl) ?_
  refine lv_bipush (v := 109) hx hb dX7_setAgain_3 (by decide) ?_
  refine lv_iload_n hx hb dX7_setAgain_5 rfl (lv_at hl 3 rfl) ?_
  refine x_V1 hx hb hml hown hE hS hl.1 cyX7_flag tw960 (c_X7_flag_k l g h I n q hq hz p hp k hk hs j hj 109 v hk9) ⟨Nat.le_of_ble_eq_true rfl, Nat.le_of_ble_eq_true rfl⟩ ⟨Nat.le_of_ble_eq_true rfl, Nat.le_of_ble_eq_true rfl⟩ (x_recv hK hH (id := [20]) (by first | trivial | (simp only [xD]; omega) | (simp [xD]; done) | (simp [xD]; omega)) (ci := 7) rfl (by decide) rfl) hH rfl rfl (Nat.le_of_ble_eq_true rfl) dX7_setAgain_6 (fun H locs hH hS => ?_)
  exact x_zret hx hb hr hlocks hS dX7_setAgain_9 rfl rfl hH

set_option maxHeartbeats 1000000 in
set_option maxRecDepth 100000 in
theorem c_X7_setAgain_u (l : Launch) (g : xG) (h : xS) (I : xI) (n : Nat) (q : Nat) (hq : q ≤ 3) (hz : I [20] 10 = nI q) (p : Nat) (hp : p < q) (k : Nat) (hk : k ≤ 8) (hs : I [24, 8] p = nI k) (j : Nat) (hj : j < k) (v : Int32) (hk9 : I [22, 0, p] j = 109) (hu : ¬ I [24, 9] p = 0) : xM l yX7_setAgain (xws yX7_setAgain cX7_setAgain 4 (some FieldType.boolean)) 5 102 g [.ref (ga g [20]), .int (nI p), .int (nI j), .int v] (xR g (xD h) I (xFh h) n) (some (.int 0)) (xR g (xD h) (up I [20] 23 3) (xFh h) n) 0 0 := by
  refine xM.of (by decide) (Nat.le_of_ble_eq_true rfl) ?_
  intro P_ e_ s m_ bl_ mt_ cd_ ls hx hb hr hown hlocks hml hnm hE hK hts hH hS hl
  have hl : lv_has ls 4 [(0, .ref (ga g [20])), (1, .int (nI p)), (2, .int (nI j)), (3, .int v)] := hl
  refine lv_aload_n hx hb dX7_setAgain_0 rfl (lv_at hl 0 rfl) ?_
  refine lv_iload_n hx hb dX7_setAgain_1 rfl (lv_at hl 1 rfl) ?_
  refine lv_iload_n hx hb dX7_setAgain_2 rfl (lv_at hl 2 rfl) ?_
  refine lv_bipush (v := 109) hx hb dX7_setAgain_3 (by decide) ?_
  refine lv_iload_n hx hb dX7_setAgain_5 rfl (lv_at hl 3 rfl) ?_
  refine x_V1 hx hb hml hown hE hS hl.1 cyX7_flag tw960 (c_X7_flag_u l g h I n q hq hz p hp k hk hs j hj 109 v hk9 hu) ⟨Nat.le_of_ble_eq_true rfl, Nat.le_of_ble_eq_true rfl⟩ ⟨Nat.le_of_ble_eq_true rfl, Nat.le_of_ble_eq_true rfl⟩ (x_recv hK hH (id := [20]) (by first | trivial | (simp only [xD]; omega) | (simp [xD]; done) | (simp [xD]; omega)) (ci := 7) rfl (by decide) rfl) hH rfl rfl (Nat.le_of_ble_eq_true rfl) dX7_setAgain_6 (fun H locs hH hS => ?_)
  exact x_zret hx hb hr hlocks hS dX7_setAgain_9 rfl rfl hH

set_option maxHeartbeats 1000000 in
set_option maxRecDepth 100000 in
theorem c_X7_setAgain (l : Launch) (g : xG) (h : xS) (I : xI) (n : Nat) (q : Nat) (hq : q ≤ 3) (hz : I [20] 10 = nI q) (p : Nat) (hp : p < q) (k : Nat) (hk : k ≤ 8) (hs : I [24, 8] p = nI k) (j : Nat) (hj : j < k) (v : Int32) (hk9 : I [22, 0, p] j = 109) (hu : I [24, 9] p = 0) (hv : sBo v) (hv2 : sBo (I [22, 2, p] j)) : xM l yX7_setAgain (xws yX7_setAgain cX7_setAgain 4 (some FieldType.boolean)) 5 102 g [.ref (ga g [20]), .int (nI p), .int (nI j), .int v] (xR g (xD h) I (xFh h) n) (some (.int (I [22, 2, p] j))) (xR g (xD h) (up (up I [20] 23 0) [22, 2, p] j v) (xFh h) n) 0 0 := by
  refine xM.of (by decide) (Nat.le_of_ble_eq_true rfl) ?_
  intro P_ e_ s m_ bl_ mt_ cd_ ls hx hb hr hown hlocks hml hnm hE hK hts hH hS hl
  have hl : lv_has ls 4 [(0, .ref (ga g [20])), (1, .int (nI p)), (2, .int (nI j)), (3, .int v)] := hl
  refine lv_aload_n hx hb dX7_setAgain_0 rfl (lv_at hl 0 rfl) ?_
  refine lv_iload_n hx hb dX7_setAgain_1 rfl (lv_at hl 1 rfl) ?_
  refine lv_iload_n hx hb dX7_setAgain_2 rfl (lv_at hl 2 rfl) ?_
  refine lv_bipush (v := 109) hx hb dX7_setAgain_3 (by decide) ?_
  refine lv_iload_n hx hb dX7_setAgain_5 rfl (lv_at hl 3 rfl) ?_
  refine x_V1 hx hb hml hown hE hS hl.1 cyX7_flag tw960 (c_X7_flag l g h I n q hq hz p hp k hk hs j hj 109 v hk9 hu hv hv2) ⟨Nat.le_of_ble_eq_true rfl, Nat.le_of_ble_eq_true rfl⟩ ⟨Nat.le_of_ble_eq_true rfl, Nat.le_of_ble_eq_true rfl⟩ (x_recv hK hH (id := [20]) (by first | trivial | (simp only [xD]; omega) | (simp [xD]; done) | (simp [xD]; omega)) (ci := 7) rfl (by decide) rfl) hH rfl rfl (Nat.le_of_ble_eq_true rfl) dX7_setAgain_6 (fun H locs hH hS => ?_)
  exact x_zret hx hb hr hlocks hS dX7_setAgain_9 hv2.nar rfl hH
