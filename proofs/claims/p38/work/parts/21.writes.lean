/-! CONTRACTS: the public writes, where they answer -/
theorem sHap_J (h : xS) (I : xI) (jn : Nat) (a b x y : Int32) (w : Nat) (x2 y2 : Int32) (s : Nat × xX) : sHap h (sJ I jn a b x y) w x2 y2 s = sHap h I w x2 y2 s := rfl
theorem sHap_U (h : xS) (I : xI) (q k : Nat) (v : Int32) (w : Nat) (x2 y2 : Int32) (s : Nat × xX) : sHap h (up I [5, q] k v) w x2 y2 s = sHap h I w x2 y2 s := rfl
/-- the numbers behind a thing that happened to the case c, its row in the journal too -/
def kI (h : xS) (I : xI) (jn c w : Nat) (x y : Int32) (X : xX) : xI := sX (sJ I jn (nI c) (nI w) x y) c (sHap h I w x y (sPl h c, X)).2
theorem xWs0.up5 {h : xS} {I : xI} (hW : xWs0 h I) (q : Nat) (v : Int32) : xWs0 h (up I [5, q] 3 v) := by
  obtain ⟨h3, hz, hp⟩ := hW
  refine ⟨h3, hz, fun p hpp => ?_⟩
  obtain ⟨a, b, c, d⟩ := hp p hpp
  exact ⟨a, by simpa [up] using b, by simpa [up] using c, d⟩
set_option maxHeartbeats 1000000 in
set_option maxRecDepth 100000 in
theorem c_X6_setRequired (l : Launch) (g : xG) (h : xS) (I : xI) (n : Nat) (hW : xWs0 h I) (p : Nat) (hpp : p < sNp h) (j : Nat) (hj : j < sSz h p) (v : Int32) (hk : I [7, p, j] 0 = 116) (hu : I [5, p] 3 = 0) (hv : sBo v) (hb4 : sBo (I [7, p, j] 4)) : xM l yX6_setRequired (xws yX6_setRequired cX6_setRequired 7 (some FieldType.boolean)) 3 55 g [.ref (ga g [0]), .int (nI p), .int (nI j), .int v] (xR g (xD h) I (xFh h) n) (some (.int (I [7, p, j] 4))) (xR g (xD h) (up I [7, p, j] 4 v) (xFh h) n) 0 0 := by
  refine xM.of (by decide) (Nat.le_of_ble_eq_true rfl) ?_
  intro P_ e_ s m_ bl_ mt_ cd_ ls hx hb hr hown hlocks hml hnm hE hK hts hH hS hl
  have hl : lv_has ls 7 [(0, .ref (ga g [0])), (1, .int (nI p)), (2, .int (nI j)), (3, .int v)] := hl
  have h3 := hW.1
  have hWp := hW.2.2 _ hpp
  have h8 := hWp.1
  refine lv_aload_n hx hb dX6_setRequired_0 rfl (lv_at hl 0 rfl) ?_
  refine lv_iload_n hx hb dX6_setRequired_1 rfl (lv_at hl 1 rfl) ?_
  refine x_V1 hx hb hml hown hE hS hl.1 cyX6_existingPlan tw247 (c_X6_existingPlan l g h I n p hpp h3 hW.2.1) ⟨Nat.le_of_ble_eq_true rfl, Nat.le_of_ble_eq_true rfl⟩ ⟨Nat.le_of_ble_eq_true rfl, Nat.le_of_ble_eq_true rfl⟩ (x_recv hK hH (id := [0]) (by first | trivial | (simp only [xD]; omega) | (simp [xD]; done) | (simp [xD]; omega)) (ci := 6) rfl (by decide) rfl) hH rfl rfl (Nat.le_of_ble_eq_true rfl) dX6_setRequired_2 (fun H locs hH hS => ?_)
  refine lv_astore (lv' := [(4, .ref (ga g [5, p])), (0, .ref (ga g [0])), (1, .int (nI p)), (2, .int (nI j)), (3, .int v)]) hx hb dX6_setRequired_5 hl (by decide) rfl (fun ls hl => ?_)
  refine lv_aload hx hb dX6_setRequired_7 (lv_at hl 0 rfl) ?_
  refine lv_iload_n hx hb dX6_setRequired_9 rfl (lv_at hl 3 rfl) ?_
  refine x_S1 hx hb hml hown hE hS hl.1 cyX6_existingStep tw372 (c_X6_existingStep l g h I n p j hpp hj h8 hWp.2.2.1) ⟨Nat.le_of_ble_eq_true rfl, Nat.le_of_ble_eq_true rfl⟩ ⟨Nat.le_of_ble_eq_true rfl, Nat.le_of_ble_eq_true rfl⟩ hH rfl rfl (Nat.le_of_ble_eq_true rfl) dX6_setRequired_10 (fun H locs hH hS => ?_)
  refine lv_astore (lv' := [(5, .ref (ga g [7, p, j])), (4, .ref (ga g [5, p])), (0, .ref (ga g [0])), (1, .int (nI p)), (2, .int (nI j)), (3, .int v)]) hx hb dX6_setRequired_13 hl (by decide) rfl (fun ls hl => ?_)
  refine lv_aload hx hb dX6_setRequired_15 (lv_at hl 0 rfl) ?_
  refine x_S0 hx hb hml hown hE hS hl.1 cyX6_refuseOtherThanTask tw447 (c_X6_refuseOtherThanTask l g h I n p j hpp hj hk) ⟨Nat.le_of_ble_eq_true rfl, Nat.le_of_ble_eq_true rfl⟩ ⟨Nat.le_of_ble_eq_true rfl, Nat.le_of_ble_eq_true rfl⟩ hH rfl rfl (Nat.le_of_ble_eq_true rfl) dX6_setRequired_17 (fun H locs hH hS => ?_)
  refine lv_aload hx hb dX6_setRequired_20 (lv_at hl 1 rfl) ?_
  refine x_S0 hx hb hml hown hE hS hl.1 cyX6_refuseUsed tw296 (c_X6_refuseUsed l g h I n p hpp hu) ⟨Nat.le_of_ble_eq_true rfl, Nat.le_of_ble_eq_true rfl⟩ ⟨Nat.le_of_ble_eq_true rfl, Nat.le_of_ble_eq_true rfl⟩ hH rfl rfl (Nat.le_of_ble_eq_true rfl) dX6_setRequired_22 (fun H locs hH hS => ?_)
  refine lv_aload hx hb dX6_setRequired_25 (lv_at hl 0 rfl) ?_
  refine x_get (C := RX5) (T := TX5) (N := 7) (ci := 5) hx hb hts iu5 hown hK hH (id := [7, p, j]) (by first | trivial | (simp only [xD]; omega) | (simp [xD]; done) | (simp [xD]; omega)) rfl rfl (by decide) 4 (by decide) (hts _ tw337) (fun _ h9 => h9) rfl (v := .int (I [7, p, j] 4)) rfl dX6_setRequired_27 ?_
  refine lv_istore (lv' := [(6, .int (I [7, p, j] 4)), (5, .ref (ga g [7, p, j])), (4, .ref (ga g [5, p])), (0, .ref (ga g [0])), (1, .int (nI p)), (2, .int (nI j)), (3, .int v)]) hx hb dX6_setRequired_30 hl (by decide) rfl (fun ls hl => ?_)
  refine lv_aload hx hb dX6_setRequired_32 (lv_at hl 1 rfl) ?_
  refine lv_iload_n hx hb dX6_setRequired_34 rfl (lv_at hl 6 rfl) ?_
  obtain ⟨I1_, hI1_⟩ : ∃ z, z = up I [7, p, j] 4 v := ⟨_, rfl⟩
  refine x_put (C := RX5) (T := TX5) (N := 7) (ci := 5) hx hb hts iu5 tyX5 tyX5_ok nmX5 hown hK hH hS (id := [7, p, j]) (by first | trivial | (simp only [xD]; omega) | (simp [xD]; done) | (simp [xD]; omega)) rfl rfl (by decide) 4 (by decide) (hts _ tw337) (fun _ h9 => h9) (Or.inl rfl) (ty := .boolean) (v := .int v) (by decide +kernel) hv.nar hv.fit (I' := I1_) (F' := (xFh h)) (fun i hi => by rw [hI1_]; exact up_id hi) (fun _ _ => rfl) (fun j9 => by rw [hI1_, up_row]; exact xv_upd (ci := 5) (k := 4) rfl j9) dX6_setRequired_35 (fun H locs hH hS => ?_)
  refine lv_iload hx hb dX6_setRequired_38 (lv_at hl 0 rfl) ?_
  exact x_zret hx hb hr hlocks hS dX6_setRequired_40 hb4.nar rfl (by rw [hI1_] at hH; exact hH)

set_option maxHeartbeats 1000000 in
set_option maxRecDepth 100000 in
theorem c_X6_setLimit (l : Launch) (g : xG) (h : xS) (I : xI) (n : Nat) (hW : xWs0 h I) (p : Nat) (hpp : p < sNp h) (j : Nat) (hj : j < sSz h p) (v : Int32) (hv1 : ¬ v < 1) (hv2 : ¬ 99 < v) (hk : I [7, p, j] 0 = 116) (hu : I [5, p] 3 = 0) : xM l yX6_setLimit (xws yX6_setLimit cX6_setLimit 7 (some FieldType.int)) 3 55 g [.ref (ga g [0]), .int (nI p), .int (nI j), .int v] (xR g (xD h) I (xFh h) n) (some (.int (I [7, p, j] 5))) (xR g (xD h) (up I [7, p, j] 5 v) (xFh h) n) 0 0 := by
  refine xM.of (by decide) (Nat.le_of_ble_eq_true rfl) ?_
  intro P_ e_ s m_ bl_ mt_ cd_ ls hx hb hr hown hlocks hml hnm hE hK hts hH hS hl
  have hl : lv_has ls 7 [(0, .ref (ga g [0])), (1, .int (nI p)), (2, .int (nI j)), (3, .int v)] := hl
  have h3 := hW.1
  have hWp := hW.2.2 _ hpp
  have h8 := hWp.1
  refine lv_aload_n hx hb dX6_setLimit_0 rfl (lv_at hl 0 rfl) ?_
  refine lv_iload_n hx hb dX6_setLimit_1 rfl (lv_at hl 1 rfl) ?_
  refine x_V1 hx hb hml hown hE hS hl.1 cyX6_existingPlan tw247 (c_X6_existingPlan l g h I n p hpp h3 hW.2.1) ⟨Nat.le_of_ble_eq_true rfl, Nat.le_of_ble_eq_true rfl⟩ ⟨Nat.le_of_ble_eq_true rfl, Nat.le_of_ble_eq_true rfl⟩ (x_recv hK hH (id := [0]) (by first | trivial | (simp only [xD]; omega) | (simp [xD]; done) | (simp [xD]; omega)) (ci := 6) rfl (by decide) rfl) hH rfl rfl (Nat.le_of_ble_eq_true rfl) dX6_setLimit_2 (fun H locs hH hS => ?_)
  refine lv_astore (lv' := [(4, .ref (ga g [5, p])), (0, .ref (ga g [0])), (1, .int (nI p)), (2, .int (nI j)), (3, .int v)]) hx hb dX6_setLimit_5 hl (by decide) rfl (fun ls hl => ?_)
  refine lv_aload hx hb dX6_setLimit_7 (lv_at hl 0 rfl) ?_
  refine lv_iload_n hx hb dX6_setLimit_9 rfl (lv_at hl 3 rfl) ?_
  refine x_S1 hx hb hml hown hE hS hl.1 cyX6_existingStep tw372 (c_X6_existingStep l g h I n p j hpp hj h8 hWp.2.2.1) ⟨Nat.le_of_ble_eq_true rfl, Nat.le_of_ble_eq_true rfl⟩ ⟨Nat.le_of_ble_eq_true rfl, Nat.le_of_ble_eq_true rfl⟩ hH rfl rfl (Nat.le_of_ble_eq_true rfl) dX6_setLimit_10 (fun H locs hH hS => ?_)
  refine lv_astore (lv' := [(5, .ref (ga g [7, p, j])), (4, .ref (ga g [5, p])), (0, .ref (ga g [0])), (1, .int (nI p)), (2, .int (nI j)), (3, .int v)]) hx hb dX6_setLimit_13 hl (by decide) rfl (fun ls hl => ?_)
  refine lv_iload_n hx hb dX6_setLimit_15 rfl (lv_at hl 5 rfl) ?_
  refine lv_iconst (v := 1) hx hb dX6_setLimit_16 (by decide) ?_
  refine lv_icmp_lt (tgt := 26) hx hb dX6_setLimit_17 (by decide) (fun q_ => absurd q_ hv1) (fun _ => ?_)
  refine lv_iload_n hx hb dX6_setLimit_20 rfl (lv_at hl 5 rfl) ?_
  refine lv_bipush (v := 99) hx hb dX6_setLimit_21 (by decide) ?_
  refine lv_icmp_le (tgt := 36) hx hb dX6_setLimit_23 (by decide) (fun _ => ?_) (fun q_ => absurd (Int32.not_lt.mp hv2) q_)
  refine lv_aload hx hb dX6_setLimit_36 (lv_at hl 0 rfl) ?_
  refine x_S0 hx hb hml hown hE hS hl.1 cyX6_refuseOtherThanTask tw447 (c_X6_refuseOtherThanTask l g h I n p j hpp hj hk) ⟨Nat.le_of_ble_eq_true rfl, Nat.le_of_ble_eq_true rfl⟩ ⟨Nat.le_of_ble_eq_true rfl, Nat.le_of_ble_eq_true rfl⟩ hH rfl rfl (Nat.le_of_ble_eq_true rfl) dX6_setLimit_38 (fun H locs hH hS => ?_)
  refine lv_aload hx hb dX6_setLimit_41 (lv_at hl 1 rfl) ?_
  refine x_S0 hx hb hml hown hE hS hl.1 cyX6_refuseUsed tw296 (c_X6_refuseUsed l g h I n p hpp hu) ⟨Nat.le_of_ble_eq_true rfl, Nat.le_of_ble_eq_true rfl⟩ ⟨Nat.le_of_ble_eq_true rfl, Nat.le_of_ble_eq_true rfl⟩ hH rfl rfl (Nat.le_of_ble_eq_true rfl) dX6_setLimit_43 (fun H locs hH hS => ?_)
  refine lv_aload hx hb dX6_setLimit_46 (lv_at hl 0 rfl) ?_
  refine x_get (C := RX5) (T := TX5) (N := 7) (ci := 5) hx hb hts iu5 hown hK hH (id := [7, p, j]) (by first | trivial | (simp only [xD]; omega) | (simp [xD]; done) | (simp [xD]; omega)) rfl rfl (by decide) 5 (by decide) (hts _ tw340) (fun _ h9 => h9) rfl (v := .int (I [7, p, j] 5)) rfl dX6_setLimit_48 ?_
  refine lv_istore (lv' := [(6, .int (I [7, p, j] 5)), (5, .ref (ga g [7, p, j])), (4, .ref (ga g [5, p])), (0, .ref (ga g [0])), (1, .int (nI p)), (2, .int (nI j)), (3, .int v)]) hx hb dX6_setLimit_51 hl (by decide) rfl (fun ls hl => ?_)
  refine lv_aload hx hb dX6_setLimit_53 (lv_at hl 1 rfl) ?_
  refine lv_iload_n hx hb dX6_setLimit_55 rfl (lv_at hl 6 rfl) ?_
  obtain ⟨I1_, hI1_⟩ : ∃ z, z = up I [7, p, j] 5 v := ⟨_, rfl⟩
  refine x_put (C := RX5) (T := TX5) (N := 7) (ci := 5) hx hb hts iu5 tyX5 tyX5_ok nmX5 hown hK hH hS (id := [7, p, j]) (by first | trivial | (simp only [xD]; omega) | (simp [xD]; done) | (simp [xD]; omega)) rfl rfl (by decide) 5 (by decide) (hts _ tw340) (fun _ h9 => h9) (Or.inl rfl) (ty := .int) (v := .int v) (by decide +kernel) rfl rfl (I' := I1_) (F' := (xFh h)) (fun i hi => by rw [hI1_]; exact up_id hi) (fun _ _ => rfl) (fun j9 => by rw [hI1_, up_row]; exact xv_upd (ci := 5) (k := 5) rfl j9) dX6_setLimit_56 (fun H locs hH hS => ?_)
  refine lv_iload hx hb dX6_setLimit_59 (lv_at hl 0 rfl) ?_
  exact x_iret hx hb hr hlocks hS dX6_setLimit_61 rfl (by rw [hI1_] at hH; exact hH)

set_option maxHeartbeats 1000000 in
set_option maxRecDepth 100000 in
theorem c_X6_setAgain (l : Launch) (g : xG) (h : xS) (I : xI) (n : Nat) (hW : xWs0 h I) (p : Nat) (hpp : p < sNp h) (j : Nat) (hj : j < sSz h p) (v : Int32) (hk : I [7, p, j] 0 = 109) (hu : I [5, p] 3 = 0) (hv : sBo v) (hb6 : sBo (I [7, p, j] 6)) : xM l yX6_setAgain (xws yX6_setAgain cX6_setAgain 7 (some FieldType.boolean)) 3 55 g [.ref (ga g [0]), .int (nI p), .int (nI j), .int v] (xR g (xD h) I (xFh h) n) (some (.int (I [7, p, j] 6))) (xR g (xD h) (up I [7, p, j] 6 v) (xFh h) n) 0 0 := by
  refine xM.of (by decide) (Nat.le_of_ble_eq_true rfl) ?_
  intro P_ e_ s m_ bl_ mt_ cd_ ls hx hb hr hown hlocks hml hnm hE hK hts hH hS hl
  have hl : lv_has ls 7 [(0, .ref (ga g [0])), (1, .int (nI p)), (2, .int (nI j)), (3, .int v)] := hl
  have h3 := hW.1
  have hWp := hW.2.2 _ hpp
  have h8 := hWp.1
  refine lv_aload_n hx hb dX6_setAgain_0 rfl (lv_at hl 0 rfl) ?_
  refine lv_iload_n hx hb dX6_setAgain_1 rfl (lv_at hl 1 rfl) ?_
  refine x_V1 hx hb hml hown hE hS hl.1 cyX6_existingPlan tw247 (c_X6_existingPlan l g h I n p hpp h3 hW.2.1) ⟨Nat.le_of_ble_eq_true rfl, Nat.le_of_ble_eq_true rfl⟩ ⟨Nat.le_of_ble_eq_true rfl, Nat.le_of_ble_eq_true rfl⟩ (x_recv hK hH (id := [0]) (by first | trivial | (simp only [xD]; omega) | (simp [xD]; done) | (simp [xD]; omega)) (ci := 6) rfl (by decide) rfl) hH rfl rfl (Nat.le_of_ble_eq_true rfl) dX6_setAgain_2 (fun H locs hH hS => ?_)
  refine lv_astore (lv' := [(4, .ref (ga g [5, p])), (0, .ref (ga g [0])), (1, .int (nI p)), (2, .int (nI j)), (3, .int v)]) hx hb dX6_setAgain_5 hl (by decide) rfl (fun ls hl => ?_)
  refine lv_aload hx hb dX6_setAgain_7 (lv_at hl 0 rfl) ?_
  refine lv_iload_n hx hb dX6_setAgain_9 rfl (lv_at hl 3 rfl) ?_
  refine x_S1 hx hb hml hown hE hS hl.1 cyX6_existingStep tw372 (c_X6_existingStep l g h I n p j hpp hj h8 hWp.2.2.1) ⟨Nat.le_of_ble_eq_true rfl, Nat.le_of_ble_eq_true rfl⟩ ⟨Nat.le_of_ble_eq_true rfl, Nat.le_of_ble_eq_true rfl⟩ hH rfl rfl (Nat.le_of_ble_eq_true rfl) dX6_setAgain_10 (fun H locs hH hS => ?_)
  refine lv_astore (lv' := [(5, .ref (ga g [7, p, j])), (4, .ref (ga g [5, p])), (0, .ref (ga g [0])), (1, .int (nI p)), (2, .int (nI j)), (3, .int v)]) hx hb dX6_setAgain_13 hl (by decide) rfl (fun ls hl => ?_)
  refine lv_aload hx hb dX6_setAgain_15 (lv_at hl 0 rfl) ?_
  refine x_get (C := RX5) (T := TX5) (N := 7) (ci := 5) hx hb hts iu5 hown hK hH (id := [7, p, j]) (by first | trivial | (simp only [xD]; omega) | (simp [xD]; done) | (simp [xD]; omega)) rfl rfl (by decide) 0 (by decide) (hts _ tw326) (fun _ h9 => h9) rfl (v := .int (I [7, p, j] 0)) rfl dX6_setAgain_17 ?_
  refine lv_bipush (v := 109) hx hb dX6_setAgain_20 (by decide) ?_
  refine lv_icmp_eq (tgt := 35) hx hb dX6_setAgain_22 (by decide) (fun _ => ?_) (fun q_ => absurd hk q_)
  refine lv_aload hx hb dX6_setAgain_35 (lv_at hl 1 rfl) ?_
  refine x_S0 hx hb hml hown hE hS hl.1 cyX6_refuseUsed tw296 (c_X6_refuseUsed l g h I n p hpp hu) ⟨Nat.le_of_ble_eq_true rfl, Nat.le_of_ble_eq_true rfl⟩ ⟨Nat.le_of_ble_eq_true rfl, Nat.le_of_ble_eq_true rfl⟩ hH rfl rfl (Nat.le_of_ble_eq_true rfl) dX6_setAgain_37 (fun H locs hH hS => ?_)
  refine lv_aload hx hb dX6_setAgain_40 (lv_at hl 0 rfl) ?_
  refine x_get (C := RX5) (T := TX5) (N := 7) (ci := 5) hx hb hts iu5 hown hK hH (id := [7, p, j]) (by first | trivial | (simp only [xD]; omega) | (simp [xD]; done) | (simp [xD]; omega)) rfl rfl (by decide) 6 (by decide) (hts _ tw344) (fun _ h9 => h9) rfl (v := .int (I [7, p, j] 6)) rfl dX6_setAgain_42 ?_
  refine lv_istore (lv' := [(6, .int (I [7, p, j] 6)), (5, .ref (ga g [7, p, j])), (4, .ref (ga g [5, p])), (0, .ref (ga g [0])), (1, .int (nI p)), (2, .int (nI j)), (3, .int v)]) hx hb dX6_setAgain_45 hl (by decide) rfl (fun ls hl => ?_)
  refine lv_aload hx hb dX6_setAgain_47 (lv_at hl 1 rfl) ?_
  refine lv_iload_n hx hb dX6_setAgain_49 rfl (lv_at hl 6 rfl) ?_
  obtain ⟨I1_, hI1_⟩ : ∃ z, z = up I [7, p, j] 6 v := ⟨_, rfl⟩
  refine x_put (C := RX5) (T := TX5) (N := 7) (ci := 5) hx hb hts iu5 tyX5 tyX5_ok nmX5 hown hK hH hS (id := [7, p, j]) (by first | trivial | (simp only [xD]; omega) | (simp [xD]; done) | (simp [xD]; omega)) rfl rfl (by decide) 6 (by decide) (hts _ tw344) (fun _ h9 => h9) (Or.inl rfl) (ty := .boolean) (v := .int v) (by decide +kernel) hv.nar hv.fit (I' := I1_) (F' := (xFh h)) (fun i hi => by rw [hI1_]; exact up_id hi) (fun _ _ => rfl) (fun j9 => by rw [hI1_, up_row]; exact xv_upd (ci := 5) (k := 6) rfl j9) dX6_setAgain_50 (fun H locs hH hS => ?_)
  refine lv_iload hx hb dX6_setAgain_53 (lv_at hl 0 rfl) ?_
  exact x_zret hx hb hr hlocks hS dX6_setAgain_55 hb6.nar rfl (by rw [hI1_] at hH; exact hH)

set_option maxHeartbeats 1000000 in
set_option maxRecDepth 100000 in
theorem c_X6_set (l : Launch) (g : xG) (h : xS) (I : xI) (n : Nat) (hW : xWs0 h I) (hC : xWc h I) (c : Nat) (hc : c < sNc h) (jn : Nat) (hjn : jn < 512) (hz : I [3] 4 = nI jn) (k : Nat) (hk : k < 4) (v : Int32) (hv : sVl v = true) : xM l yX6_set (xws yX6_set cX6_set 6 (some FieldType.int)) 7 154 g [.ref (ga g [0]), .int (nI c), .int (nI k), .int v] (xR g (xD h) I (xFh h) n) (some (.int (I [11, c, 1] k))) (xR g (xD h) (kI h I jn c 1 (nI k) v (gX I c)) (xFh h) n) 0 0 := by
  refine xM.of (by decide) (Nat.le_of_ble_eq_true rfl) ?_
  intro P_ e_ s m_ bl_ mt_ cd_ ls hx hb hr hown hlocks hml hnm hE hK hts hH hS hl
  have hl : lv_has ls 6 [(0, .ref (ga g [0])), (1, .int (nI c)), (2, .int (nI k)), (3, .int v)] := hl
  have hpp := (hC.2.2 c hc).1
  have hch := (hC.2.2 c hc).2
  have hWp := hW.2.2 _ hpp
  have h4 := hC.1
  have h3 := hW.1
  have h8 := hWp.1
  rw [← sX_get I c] at hH
  refine lv_aload_n hx hb dX6_set_0 rfl (lv_at hl 0 rfl) ?_
  refine lv_iload_n hx hb dX6_set_1 rfl (lv_at hl 1 rfl) ?_
  refine x_V1 hx hb hml hown hE hS hl.1 cyX6_existingCase tw571 (c_X6_existingCase l g h (sX I c (gX I c)) n c hc h4 hC.2.1) ⟨Nat.le_of_ble_eq_true rfl, Nat.le_of_ble_eq_true rfl⟩ ⟨Nat.le_of_ble_eq_true rfl, Nat.le_of_ble_eq_true rfl⟩ (x_recv hK hH (id := [0]) (by first | trivial | (simp only [xD]; omega) | (simp [xD]; done) | (simp [xD]; omega)) (ci := 6) rfl (by decide) rfl) hH rfl rfl (Nat.le_of_ble_eq_true rfl) dX6_set_2 (fun H locs hH hS => ?_)
  refine lv_astore (lv' := [(4, .ref (ga g [11, c, 0])), (0, .ref (ga g [0])), (1, .int (nI c)), (2, .int (nI k)), (3, .int v)]) hx hb dX6_set_5 hl (by decide) rfl (fun ls hl => ?_)
  refine lv_iload_n hx hb dX6_set_7 rfl (lv_at hl 3 rfl) ?_
  refine x_S1 hx hb hml hown hE hS hl.1 cyX6_isDatum tw383 (c_X6_isDatum l g h (sX I c (gX I c)) n (nI k)) ⟨Nat.le_of_ble_eq_true rfl, Nat.le_of_ble_eq_true rfl⟩ ⟨Nat.le_of_ble_eq_true rfl, Nat.le_of_ble_eq_true rfl⟩ hH rfl rfl (Nat.le_of_ble_eq_true rfl) dX6_set_8 (fun H locs hH hS => ?_)
  refine lv_if_ne (tgt := 24) hx hb dX6_set_11 (by decide) (fun _ => ?_) (fun q_ => absurd q_ (by rw [show sIn (nI k) 0 4 = true from sIn_nI (N := 4) hk (by omega)]; decide))
  refine lv_iload_n hx hb dX6_set_24 rfl (lv_at hl 4 rfl) ?_
  refine x_S1 hx hb hml hown hE hS hl.1 cyX6_isValue tw386 (c_X6_isValue l g h (sX I c (gX I c)) n v) ⟨Nat.le_of_ble_eq_true rfl, Nat.le_of_ble_eq_true rfl⟩ ⟨Nat.le_of_ble_eq_true rfl, Nat.le_of_ble_eq_true rfl⟩ hH rfl rfl (Nat.le_of_ble_eq_true rfl) dX6_set_25 (fun H locs hH hS => ?_)
  refine lv_if_ne (tgt := 41) hx hb dX6_set_28 (by decide) (fun _ => ?_) (fun q_ => absurd q_ (by rw [show (!decide (v < -99) && !decide (99 < v)) = true from hv]; decide))
  refine lv_aload hx hb dX6_set_41 (lv_at hl 0 rfl) ?_
  refine lv_iload_n hx hb dX6_set_43 rfl (lv_at hl 3 rfl) ?_
  refine x_V1 hx hb hml hown hE hS hl.1 cyX0_valueOf tw582 (c_X0_valueOf l g h I n c (gX I c) (Or.inl hc) k hk) ⟨Nat.le_of_ble_eq_true rfl, Nat.le_of_ble_eq_true rfl⟩ ⟨Nat.le_of_ble_eq_true rfl, Nat.le_of_ble_eq_true rfl⟩ (x_recv hK hH (id := [11, c, 0]) (by first | trivial | (simp only [xD]; omega) | (simp [xD]; done) | (simp [xD]; omega)) (ci := 0) rfl (by decide) rfl) hH rfl rfl (Nat.le_of_ble_eq_true rfl) dX6_set_44 (fun H locs hH hS => ?_)
  refine lv_istore (lv' := [(5, .int (I [11, c, 1] k)), (4, .ref (ga g [11, c, 0])), (0, .ref (ga g [0])), (1, .int (nI c)), (2, .int (nI k)), (3, .int v)]) hx hb dX6_set_47 hl (by decide) rfl (fun ls hl => ?_)
  refine lv_aload_n hx hb dX6_set_49 rfl (lv_at hl 2 rfl) ?_
  refine lv_iload_n hx hb dX6_set_50 rfl (lv_at hl 3 rfl) ?_
  refine lv_aload hx hb dX6_set_51 (lv_at hl 1 rfl) ?_
  refine lv_iconst (v := 1) hx hb dX6_set_53 (by decide) ?_
  refine lv_iload_n hx hb dX6_set_54 rfl (lv_at hl 4 rfl) ?_
  refine lv_iload_n hx hb dX6_set_55 rfl (lv_at hl 5 rfl) ?_
  refine x_V0 hx hb hml hown hE hS hl.1 cyX6_noteAndDo tw484 (c_X6_noteAndDo l g h I n c (gX I c) (Or.inl hc) (sPl h c) rfl hW 1 (by decide) (nI c) 1 (nI k) v rfl ⟨hpp, k, hk, rfl⟩ hch jn hjn hz) ⟨Nat.le_of_ble_eq_true rfl, Nat.le_of_ble_eq_true rfl⟩ ⟨Nat.le_of_ble_eq_true rfl, Nat.le_of_ble_eq_true rfl⟩ (x_recv hK hH (id := [0]) (by first | trivial | (simp only [xD]; omega) | (simp [xD]; done) | (simp [xD]; omega)) (ci := 6) rfl (by decide) rfl) hH rfl rfl (Nat.le_of_ble_eq_true rfl) dX6_set_56 (fun H locs hH hS => ?_)
  rw [sHap_J, show hPl h c (sHap h I 1 (nI k) v (sPl h c, (gX I c))).1 = h from hPl_self h c] at hH
  refine lv_iload hx hb dX6_set_59 (lv_at hl 0 rfl) ?_
  exact x_iret hx hb hr hlocks hS dX6_set_61 rfl hH

set_option maxHeartbeats 1000000 in
set_option maxRecDepth 100000 in
theorem c_X6_event (l : Launch) (g : xG) (h : xS) (I : xI) (n : Nat) (hW : xWs0 h I) (hC : xWc h I) (c : Nat) (hc : c < sNc h) (jn : Nat) (hjn : jn < 512) (hz : I [3] 4 = nI jn) (x : Int32) (hx10 : sIn x 0 10 = true) : xM l yX6_event (xws yX6_event cX6_event 4 (some FieldType.int)) 7 154 g [.ref (ga g [0]), .int (nI c), .int x] (xR g (xD h) I (xFh h) n) (some (.int (nI (sChg (sHap h I 2 x 0 (sPl h c, sRem (gX I c) 8)).2 (-1) 8)))) (xR g (xD h) (kI h I jn c 2 x 0 (sRem (gX I c) 8)) (xFh h) n) 0 0 := by
  refine xM.of (by decide) (Nat.le_of_ble_eq_true rfl) ?_
  intro P_ e_ s m_ bl_ mt_ cd_ ls hx hb hr hown hlocks hml hnm hE hK hts hH hS hl
  have hl : lv_has ls 4 [(0, .ref (ga g [0])), (1, .int (nI c)), (2, .int x)] := hl
  have hpp := (hC.2.2 c hc).1
  have hch := (hC.2.2 c hc).2
  have hWp := hW.2.2 _ hpp
  have h4 := hC.1
  have h3 := hW.1
  have h8 := hWp.1
  have hchr : xCh (sRem (gX I c) 8) := fun k => by rw [sRem_2]; exact hch k
  rw [← sX_get I c] at hH
  refine lv_aload_n hx hb dX6_event_0 rfl (lv_at hl 0 rfl) ?_
  refine lv_iload_n hx hb dX6_event_1 rfl (lv_at hl 1 rfl) ?_
  refine x_V1 hx hb hml hown hE hS hl.1 cyX6_existingCase tw571 (c_X6_existingCase l g h (sX I c (gX I c)) n c hc h4 hC.2.1) ⟨Nat.le_of_ble_eq_true rfl, Nat.le_of_ble_eq_true rfl⟩ ⟨Nat.le_of_ble_eq_true rfl, Nat.le_of_ble_eq_true rfl⟩ (x_recv hK hH (id := [0]) (by first | trivial | (simp only [xD]; omega) | (simp [xD]; done) | (simp [xD]; omega)) (ci := 6) rfl (by decide) rfl) hH rfl rfl (Nat.le_of_ble_eq_true rfl) dX6_event_2 (fun H locs hH hS => ?_)
  refine lv_astore_n (lv' := [(3, .ref (ga g [11, c, 0])), (0, .ref (ga g [0])), (1, .int (nI c)), (2, .int x)]) hx hb dX6_event_5 rfl hl (by decide) rfl (fun ls hl => ?_)
  refine lv_iload_n hx hb dX6_event_6 rfl (lv_at hl 3 rfl) ?_
  refine x_S1 hx hb hml hown hE hS hl.1 cyX6_isEvent tw389 (c_X6_isEvent l g h (sX I c (gX I c)) n x) ⟨Nat.le_of_ble_eq_true rfl, Nat.le_of_ble_eq_true rfl⟩ ⟨Nat.le_of_ble_eq_true rfl, Nat.le_of_ble_eq_true rfl⟩ hH rfl rfl (Nat.le_of_ble_eq_true rfl) dX6_event_7 (fun H locs hH hS => ?_)
  refine lv_if_ne (tgt := 23) hx hb dX6_event_10 (by decide) (fun _ => ?_) (fun q_ => absurd q_ (by rw [hx10]; decide))
  refine lv_aload_n hx hb dX6_event_23 rfl (lv_at hl 0 rfl) ?_
  refine x_V0 hx hb hml hown hE hS hl.1 cyX0_rememberStates tw591 (c_X0_rememberStates l g h I n c (gX I c) (Or.inl hc) hch) ⟨Nat.le_of_ble_eq_true rfl, Nat.le_of_ble_eq_true rfl⟩ ⟨Nat.le_of_ble_eq_true rfl, Nat.le_of_ble_eq_true rfl⟩ (x_recv hK hH (id := [11, c, 0]) (by first | trivial | (simp only [xD]; omega) | (simp [xD]; done) | (simp [xD]; omega)) (ci := 0) rfl (by decide) rfl) hH rfl rfl (Nat.le_of_ble_eq_true rfl) dX6_event_24 (fun H locs hH hS => ?_)
  refine lv_aload_n hx hb dX6_event_27 rfl (lv_at hl 1 rfl) ?_
  refine lv_iload_n hx hb dX6_event_28 rfl (lv_at hl 2 rfl) ?_
  refine lv_aload_n hx hb dX6_event_29 rfl (lv_at hl 0 rfl) ?_
  refine lv_iconst (v := 2) hx hb dX6_event_30 (by decide) ?_
  refine lv_iload_n hx hb dX6_event_31 rfl (lv_at hl 3 rfl) ?_
  refine lv_iconst (v := 0) hx hb dX6_event_32 (by decide) ?_
  refine x_V0 hx hb hml hown hE hS hl.1 cyX6_noteAndDo tw484 (c_X6_noteAndDo l g h I n c (sRem (gX I c) 8) (Or.inl hc) (sPl h c) rfl hW 2 (by decide) (nI c) 2 x 0 rfl hpp hchr jn hjn hz) ⟨Nat.le_of_ble_eq_true rfl, Nat.le_of_ble_eq_true rfl⟩ ⟨Nat.le_of_ble_eq_true rfl, Nat.le_of_ble_eq_true rfl⟩ (x_recv hK hH (id := [0]) (by first | trivial | (simp only [xD]; omega) | (simp [xD]; done) | (simp [xD]; omega)) (ci := 6) rfl (by decide) rfl) hH rfl rfl (Nat.le_of_ble_eq_true rfl) dX6_event_33 (fun H locs hH hS => ?_)
  rw [sHap_J, show hPl h c (sHap h I 2 x 0 (sPl h c, (sRem (gX I c) 8))).1 = h from hPl_self h c] at hH
  refine lv_aload_n hx hb dX6_event_36 rfl (lv_at hl 0 rfl) ?_
  refine lv_iconst (v := (-1)) hx hb dX6_event_37 (by decide) ?_
  refine x_V1 hx hb hml hown hE hS hl.1 cyX0_changedStepsBut tw595 (c_X0_changedStepsBut l g h (sJ I jn (nI c) 2 x 0) n c (sHap h I 2 x 0 (sPl h c, (sRem (gX I c) 8))).2 (Or.inl hc) (-1)) ⟨Nat.le_of_ble_eq_true rfl, Nat.le_of_ble_eq_true rfl⟩ ⟨Nat.le_of_ble_eq_true rfl, Nat.le_of_ble_eq_true rfl⟩ (x_recv hK hH (id := [11, c, 0]) (by first | trivial | (simp only [xD]; omega) | (simp [xD]; done) | (simp [xD]; omega)) (ci := 0) rfl (by decide) rfl) hH rfl rfl (Nat.le_of_ble_eq_true rfl) dX6_event_38 (fun H locs hH hS => ?_)
  exact x_iret hx hb hr hlocks hS dX6_event_41 rfl hH

set_option maxHeartbeats 1000000 in
set_option maxRecDepth 100000 in
theorem c_X6_complete (l : Launch) (g : xG) (h : xS) (I : xI) (n : Nat) (hW : xWs0 h I) (hC : xWc h I) (c : Nat) (hc : c < sNc h) (jn : Nat) (hjn : jn < 512) (hz : I [3] 4 = nI jn) (j : Nat) (hj : j < sSz h (sPl h c)) (hk : I [7, sPl h c, j] 0 = 116) (ha : I [11, c, 2] j = 97) : xM l yX6_complete (xws yX6_complete cX6_complete 4 (some FieldType.int)) 7 154 g [.ref (ga g [0]), .int (nI c), .int (nI j)] (xR g (xD h) I (xFh h) n) (some (.int (nI (sChg (sHap h I 3 (nI j) 0 (sPl h c, sRem (gX I c) 8)).2 (nI j) 8)))) (xR g (xD h) (kI h I jn c 3 (nI j) 0 (sRem (gX I c) 8)) (xFh h) n) 0 0 := by
  refine xM.of (by decide) (Nat.le_of_ble_eq_true rfl) ?_
  intro P_ e_ s m_ bl_ mt_ cd_ ls hx hb hr hown hlocks hml hnm hE hK hts hH hS hl
  have hl : lv_has ls 4 [(0, .ref (ga g [0])), (1, .int (nI c)), (2, .int (nI j))] := hl
  have hpp := (hC.2.2 c hc).1
  have hch := (hC.2.2 c hc).2
  have hWp := hW.2.2 _ hpp
  have h4 := hC.1
  have h3 := hW.1
  have h8 := hWp.1
  have hchr : xCh (sRem (gX I c) 8) := fun k => by rw [sRem_2]; exact hch k
  rw [← sX_get I c] at hH
  refine lv_aload_n hx hb dX6_complete_0 rfl (lv_at hl 0 rfl) ?_
  refine lv_iload_n hx hb dX6_complete_1 rfl (lv_at hl 1 rfl) ?_
  refine x_V1 hx hb hml hown hE hS hl.1 cyX6_existingCase tw571 (c_X6_existingCase l g h (sX I c (gX I c)) n c hc h4 hC.2.1) ⟨Nat.le_of_ble_eq_true rfl, Nat.le_of_ble_eq_true rfl⟩ ⟨Nat.le_of_ble_eq_true rfl, Nat.le_of_ble_eq_true rfl⟩ (x_recv hK hH (id := [0]) (by first | trivial | (simp only [xD]; omega) | (simp [xD]; done) | (simp [xD]; omega)) (ci := 6) rfl (by decide) rfl) hH rfl rfl (Nat.le_of_ble_eq_true rfl) dX6_complete_2 (fun H locs hH hS => ?_)
  refine lv_astore_n (lv' := [(3, .ref (ga g [11, c, 0])), (0, .ref (ga g [0])), (1, .int (nI c)), (2, .int (nI j))]) hx hb dX6_complete_5 rfl hl (by decide) rfl (fun ls hl => ?_)
  refine lv_aload_n hx hb dX6_complete_6 rfl (lv_at hl 0 rfl) ?_
  refine x_get (C := RX0) (T := TX0) (N := 11) (ci := 0) hx hb hts iu0 hown hK hH (id := [11, c, 0]) (by first | trivial | (simp only [xD]; omega) | (simp [xD]; done) | (simp [xD]; omega)) rfl rfl (by decide) 0 (by decide) (hts _ tw91) (fun _ h9 => h9) (sX_at _ _ _ _) (v := .ref (ga g [5, sPl h c])) rfl dX6_complete_7 ?_
  refine lv_iload_n hx hb dX6_complete_10 rfl (lv_at hl 3 rfl) ?_
  refine x_S1 hx hb hml hown hE hS hl.1 cyX6_existingStep tw372 (c_X6_existingStep l g h (sX I c (gX I c)) n (sPl h c) j hpp hj h8 hWp.2.2.1) ⟨Nat.le_of_ble_eq_true rfl, Nat.le_of_ble_eq_true rfl⟩ ⟨Nat.le_of_ble_eq_true rfl, Nat.le_of_ble_eq_true rfl⟩ hH rfl rfl (Nat.le_of_ble_eq_true rfl) dX6_complete_11 (fun H locs hH hS => ?_)
  refine x_S0 hx hb hml hown hE hS hl.1 cyX6_refuseOtherThanTask tw447 (c_X6_refuseOtherThanTask l g h (sX I c (gX I c)) n (sPl h c) j hpp hj hk) ⟨Nat.le_of_ble_eq_true rfl, Nat.le_of_ble_eq_true rfl⟩ ⟨Nat.le_of_ble_eq_true rfl, Nat.le_of_ble_eq_true rfl⟩ hH rfl rfl (Nat.le_of_ble_eq_true rfl) dX6_complete_14 (fun H locs hH hS => ?_)
  refine lv_aload_n hx hb dX6_complete_17 rfl (lv_at hl 0 rfl) ?_
  refine lv_iload_n hx hb dX6_complete_18 rfl (lv_at hl 3 rfl) ?_
  refine x_V1 hx hb hml hown hE hS hl.1 cyX0_stateOf tw611 (c_X0_stateOf l g h I n c (gX I c) (Or.inl hc) j (by omega) hch) ⟨Nat.le_of_ble_eq_true rfl, Nat.le_of_ble_eq_true rfl⟩ ⟨Nat.le_of_ble_eq_true rfl, Nat.le_of_ble_eq_true rfl⟩ (x_recv hK hH (id := [11, c, 0]) (by first | trivial | (simp only [xD]; omega) | (simp [xD]; done) | (simp [xD]; omega)) (ci := 0) rfl (by decide) rfl) hH rfl rfl (Nat.le_of_ble_eq_true rfl) dX6_complete_19 (fun H locs hH hS => ?_)
  refine lv_bipush (v := 97) hx hb dX6_complete_22 (by decide) ?_
  refine lv_icmp_eq (tgt := 37) hx hb dX6_complete_24 (by decide) (fun _ => ?_) (fun q_ => absurd ha q_)
  refine lv_aload_n hx hb dX6_complete_37 rfl (lv_at hl 0 rfl) ?_
  refine x_V0 hx hb hml hown hE hS hl.1 cyX0_rememberStates tw591 (c_X0_rememberStates l g h I n c (gX I c) (Or.inl hc) hch) ⟨Nat.le_of_ble_eq_true rfl, Nat.le_of_ble_eq_true rfl⟩ ⟨Nat.le_of_ble_eq_true rfl, Nat.le_of_ble_eq_true rfl⟩ (x_recv hK hH (id := [11, c, 0]) (by first | trivial | (simp only [xD]; omega) | (simp [xD]; done) | (simp [xD]; omega)) (ci := 0) rfl (by decide) rfl) hH rfl rfl (Nat.le_of_ble_eq_true rfl) dX6_complete_38 (fun H locs hH hS => ?_)
  refine lv_aload_n hx hb dX6_complete_41 rfl (lv_at hl 1 rfl) ?_
  refine lv_iload_n hx hb dX6_complete_42 rfl (lv_at hl 2 rfl) ?_
  refine lv_aload_n hx hb dX6_complete_43 rfl (lv_at hl 0 rfl) ?_
  refine lv_iconst (v := 3) hx hb dX6_complete_44 (by decide) ?_
  refine lv_iload_n hx hb dX6_complete_45 rfl (lv_at hl 3 rfl) ?_
  refine lv_iconst (v := 0) hx hb dX6_complete_46 (by decide) ?_
  refine x_V0 hx hb hml hown hE hS hl.1 cyX6_noteAndDo tw484 (c_X6_noteAndDo l g h I n c (sRem (gX I c) 8) (Or.inl hc) (sPl h c) rfl hW 3 (by decide) (nI c) 3 (nI j) 0 rfl ⟨hpp, j, hj, rfl⟩ hchr jn hjn hz) ⟨Nat.le_of_ble_eq_true rfl, Nat.le_of_ble_eq_true rfl⟩ ⟨Nat.le_of_ble_eq_true rfl, Nat.le_of_ble_eq_true rfl⟩ (x_recv hK hH (id := [0]) (by first | trivial | (simp only [xD]; omega) | (simp [xD]; done) | (simp [xD]; omega)) (ci := 6) rfl (by decide) rfl) hH rfl rfl (Nat.le_of_ble_eq_true rfl) dX6_complete_47 (fun H locs hH hS => ?_)
  rw [sHap_J, show hPl h c (sHap h I 3 (nI j) 0 (sPl h c, (sRem (gX I c) 8))).1 = h from hPl_self h c] at hH
  refine lv_aload_n hx hb dX6_complete_50 rfl (lv_at hl 0 rfl) ?_
  refine lv_iload_n hx hb dX6_complete_51 rfl (lv_at hl 3 rfl) ?_
  refine x_V1 hx hb hml hown hE hS hl.1 cyX0_changedStepsBut tw595 (c_X0_changedStepsBut l g h (sJ I jn (nI c) 3 (nI j) 0) n c (sHap h I 3 (nI j) 0 (sPl h c, (sRem (gX I c) 8))).2 (Or.inl hc) (nI j)) ⟨Nat.le_of_ble_eq_true rfl, Nat.le_of_ble_eq_true rfl⟩ ⟨Nat.le_of_ble_eq_true rfl, Nat.le_of_ble_eq_true rfl⟩ (x_recv hK hH (id := [11, c, 0]) (by first | trivial | (simp only [xD]; omega) | (simp [xD]; done) | (simp [xD]; omega)) (ci := 0) rfl (by decide) rfl) hH rfl rfl (Nat.le_of_ble_eq_true rfl) dX6_complete_52 (fun H locs hH hS => ?_)
  exact x_iret hx hb hr hlocks hS dX6_complete_55 rfl hH

set_option maxHeartbeats 1000000 in
set_option maxRecDepth 100000 in
theorem c_X6_setWaiting_1 (l : Launch) (g : xG) (h : xS) (I : xI) (n : Nat) (hW : xWs0 h I) (hC : xWc h I) (c : Nat) (hc : c < sNc h) (jn : Nat) (hjn : jn < 512) (hz : I [3] 4 = nI jn) (hb7 : sBo (I [11, c, 0] 7)) : xM l yX6_setWaiting (xws yX6_setWaiting cX6_setWaiting 5 (some FieldType.boolean)) 7 154 g [.ref (ga g [0]), .int (nI c), .int 1] (xR g (xD h) I (xFh h) n) (some (.int (I [11, c, 0] 7))) (xR g (xD h) (kI h I jn c 4 0 0 (gX I c)) (xFh h) n) 0 0 := by
  refine xM.of (by decide) (Nat.le_of_ble_eq_true rfl) ?_
  intro P_ e_ s m_ bl_ mt_ cd_ ls hx hb hr hown hlocks hml hnm hE hK hts hH hS hl
  have hl : lv_has ls 5 [(0, .ref (ga g [0])), (1, .int (nI c)), (2, .int 1)] := hl
  have hpp := (hC.2.2 c hc).1
  have hch := (hC.2.2 c hc).2
  have hWp := hW.2.2 _ hpp
  have h4 := hC.1
  have h3 := hW.1
  have h8 := hWp.1
  rw [← sX_get I c] at hH
  refine lv_aload_n hx hb dX6_setWaiting_0 rfl (lv_at hl 0 rfl) ?_
  refine lv_iload_n hx hb dX6_setWaiting_1 rfl (lv_at hl 1 rfl) ?_
  refine x_V1 hx hb hml hown hE hS hl.1 cyX6_existingCase tw571 (c_X6_existingCase l g h (sX I c (gX I c)) n c hc h4 hC.2.1) ⟨Nat.le_of_ble_eq_true rfl, Nat.le_of_ble_eq_true rfl⟩ ⟨Nat.le_of_ble_eq_true rfl, Nat.le_of_ble_eq_true rfl⟩ (x_recv hK hH (id := [0]) (by first | trivial | (simp only [xD]; omega) | (simp [xD]; done) | (simp [xD]; omega)) (ci := 6) rfl (by decide) rfl) hH rfl rfl (Nat.le_of_ble_eq_true rfl) dX6_setWaiting_2 (fun H locs hH hS => ?_)
  refine lv_astore_n (lv' := [(3, .ref (ga g [11, c, 0])), (0, .ref (ga g [0])), (1, .int (nI c)), (2, .int 1)]) hx hb dX6_setWaiting_5 rfl hl (by decide) rfl (fun ls hl => ?_)
  refine lv_aload_n hx hb dX6_setWaiting_6 rfl (lv_at hl 0 rfl) ?_
  refine x_get (C := RX0) (T := TX0) (N := 11) (ci := 0) hx hb hts iu0 hown hK hH (id := [11, c, 0]) (by first | trivial | (simp only [xD]; omega) | (simp [xD]; done) | (simp [xD]; omega)) rfl rfl (by decide) 7 (by decide) (hts _ tw100) (fun _ h9 => h9) (sX_at _ _ _ _) (v := .int (I [11, c, 0] 7)) rfl dX6_setWaiting_7 ?_
  refine lv_istore (lv' := [(4, .int (I [11, c, 0] 7)), (3, .ref (ga g [11, c, 0])), (0, .ref (ga g [0])), (1, .int (nI c)), (2, .int 1)]) hx hb dX6_setWaiting_10 hl (by decide) rfl (fun ls hl => ?_)
  refine lv_aload_n hx hb dX6_setWaiting_12 rfl (lv_at hl 2 rfl) ?_
  refine lv_iload_n hx hb dX6_setWaiting_13 rfl (lv_at hl 3 rfl) ?_
  refine lv_aload_n hx hb dX6_setWaiting_14 rfl (lv_at hl 1 rfl) ?_
  refine lv_iload_n hx hb dX6_setWaiting_15 rfl (lv_at hl 4 rfl) ?_
  refine lv_if_eq (tgt := 23) hx hb dX6_setWaiting_16 (by decide) (fun q_ => absurd q_ (by decide)) (fun _ => ?_)
  refine lv_iconst (v := 4) hx hb dX6_setWaiting_19 (by decide) ?_
  refine lv_goto (tgt := 24) hx hb dX6_setWaiting_20 (by decide) ?_
  refine lv_iconst (v := 0) hx hb dX6_setWaiting_24 (by decide) ?_
  refine lv_iconst (v := 0) hx hb dX6_setWaiting_25 (by decide) ?_
  refine x_V0 hx hb hml hown hE hS hl.1 cyX6_noteAndDo tw484 (c_X6_noteAndDo l g h I n c (gX I c) (Or.inl hc) (sPl h c) rfl hW 4 (by decide) (nI c) 4 0 0 rfl hpp hch jn hjn hz) ⟨Nat.le_of_ble_eq_true rfl, Nat.le_of_ble_eq_true rfl⟩ ⟨Nat.le_of_ble_eq_true rfl, Nat.le_of_ble_eq_true rfl⟩ (x_recv hK hH (id := [0]) (by first | trivial | (simp only [xD]; omega) | (simp [xD]; done) | (simp [xD]; omega)) (ci := 6) rfl (by decide) rfl) hH rfl rfl (Nat.le_of_ble_eq_true rfl) dX6_setWaiting_26 (fun H locs hH hS => ?_)
  rw [sHap_J, show hPl h c (sHap h I 4 0 0 (sPl h c, (gX I c))).1 = h from hPl_self h c] at hH
  refine lv_iload hx hb dX6_setWaiting_29 (lv_at hl 0 rfl) ?_
  exact x_zret hx hb hr hlocks hS dX6_setWaiting_31 hb7.nar rfl hH

set_option maxHeartbeats 1000000 in
set_option maxRecDepth 100000 in
theorem c_X6_setWaiting_0 (l : Launch) (g : xG) (h : xS) (I : xI) (n : Nat) (hW : xWs0 h I) (hC : xWc h I) (c : Nat) (hc : c < sNc h) (jn : Nat) (hjn : jn < 512) (hz : I [3] 4 = nI jn) (hb7 : sBo (I [11, c, 0] 7)) : xM l yX6_setWaiting (xws yX6_setWaiting cX6_setWaiting 5 (some FieldType.boolean)) 7 154 g [.ref (ga g [0]), .int (nI c), .int 0] (xR g (xD h) I (xFh h) n) (some (.int (I [11, c, 0] 7))) (xR g (xD h) (kI h I jn c 5 0 0 (gX I c)) (xFh h) n) 0 0 := by
  refine xM.of (by decide) (Nat.le_of_ble_eq_true rfl) ?_
  intro P_ e_ s m_ bl_ mt_ cd_ ls hx hb hr hown hlocks hml hnm hE hK hts hH hS hl
  have hl : lv_has ls 5 [(0, .ref (ga g [0])), (1, .int (nI c)), (2, .int 0)] := hl
  have hpp := (hC.2.2 c hc).1
  have hch := (hC.2.2 c hc).2
  have hWp := hW.2.2 _ hpp
  have h4 := hC.1
  have h3 := hW.1
  have h8 := hWp.1
  rw [← sX_get I c] at hH
  refine lv_aload_n hx hb dX6_setWaiting_0 rfl (lv_at hl 0 rfl) ?_
  refine lv_iload_n hx hb dX6_setWaiting_1 rfl (lv_at hl 1 rfl) ?_
  refine x_V1 hx hb hml hown hE hS hl.1 cyX6_existingCase tw571 (c_X6_existingCase l g h (sX I c (gX I c)) n c hc h4 hC.2.1) ⟨Nat.le_of_ble_eq_true rfl, Nat.le_of_ble_eq_true rfl⟩ ⟨Nat.le_of_ble_eq_true rfl, Nat.le_of_ble_eq_true rfl⟩ (x_recv hK hH (id := [0]) (by first | trivial | (simp only [xD]; omega) | (simp [xD]; done) | (simp [xD]; omega)) (ci := 6) rfl (by decide) rfl) hH rfl rfl (Nat.le_of_ble_eq_true rfl) dX6_setWaiting_2 (fun H locs hH hS => ?_)
  refine lv_astore_n (lv' := [(3, .ref (ga g [11, c, 0])), (0, .ref (ga g [0])), (1, .int (nI c)), (2, .int 0)]) hx hb dX6_setWaiting_5 rfl hl (by decide) rfl (fun ls hl => ?_)
  refine lv_aload_n hx hb dX6_setWaiting_6 rfl (lv_at hl 0 rfl) ?_
  refine x_get (C := RX0) (T := TX0) (N := 11) (ci := 0) hx hb hts iu0 hown hK hH (id := [11, c, 0]) (by first | trivial | (simp only [xD]; omega) | (simp [xD]; done) | (simp [xD]; omega)) rfl rfl (by decide) 7 (by decide) (hts _ tw100) (fun _ h9 => h9) (sX_at _ _ _ _) (v := .int (I [11, c, 0] 7)) rfl dX6_setWaiting_7 ?_
  refine lv_istore (lv' := [(4, .int (I [11, c, 0] 7)), (3, .ref (ga g [11, c, 0])), (0, .ref (ga g [0])), (1, .int (nI c)), (2, .int 0)]) hx hb dX6_setWaiting_10 hl (by decide) rfl (fun ls hl => ?_)
  refine lv_aload_n hx hb dX6_setWaiting_12 rfl (lv_at hl 2 rfl) ?_
  refine lv_iload_n hx hb dX6_setWaiting_13 rfl (lv_at hl 3 rfl) ?_
  refine lv_aload_n hx hb dX6_setWaiting_14 rfl (lv_at hl 1 rfl) ?_
  refine lv_iload_n hx hb dX6_setWaiting_15 rfl (lv_at hl 4 rfl) ?_
  refine lv_if_eq (tgt := 23) hx hb dX6_setWaiting_16 (by decide) (fun _ => ?_) (fun q_ => absurd (by decide) q_)
  refine lv_iconst (v := 5) hx hb dX6_setWaiting_23 (by decide) ?_
  refine lv_iconst (v := 0) hx hb dX6_setWaiting_24 (by decide) ?_
  refine lv_iconst (v := 0) hx hb dX6_setWaiting_25 (by decide) ?_
  refine x_V0 hx hb hml hown hE hS hl.1 cyX6_noteAndDo tw484 (c_X6_noteAndDo l g h I n c (gX I c) (Or.inl hc) (sPl h c) rfl hW 5 (by decide) (nI c) 5 0 0 rfl hpp hch jn hjn hz) ⟨Nat.le_of_ble_eq_true rfl, Nat.le_of_ble_eq_true rfl⟩ ⟨Nat.le_of_ble_eq_true rfl, Nat.le_of_ble_eq_true rfl⟩ (x_recv hK hH (id := [0]) (by first | trivial | (simp only [xD]; omega) | (simp [xD]; done) | (simp [xD]; omega)) (ci := 6) rfl (by decide) rfl) hH rfl rfl (Nat.le_of_ble_eq_true rfl) dX6_setWaiting_26 (fun H locs hH hS => ?_)
  rw [sHap_J, show hPl h c (sHap h I 5 0 0 (sPl h c, (gX I c))).1 = h from hPl_self h c] at hH
  refine lv_iload hx hb dX6_setWaiting_29 (lv_at hl 0 rfl) ?_
  exact x_zret hx hb hr hlocks hS dX6_setWaiting_31 hb7.nar rfl hH

set_option maxHeartbeats 1000000 in
set_option maxRecDepth 100000 in
theorem c_X6_move (l : Launch) (g : xG) (h : xS) (I : xI) (n : Nat) (hW : xWs0 h I) (hC : xWc h I) (c : Nat) (hc : c < sNc h) (jn : Nat) (hjn : jn < 512) (hz : I [3] 4 = nI jn) (q : Nat) (hq : q < sNp h) (hzq : sSz h (sPl h c) ≤ sSz h q) : xM l yX6_move (xws yX6_move cX6_move 6 (some FieldType.int)) 7 154 g [.ref (ga g [0]), .int (nI c), .int (nI q)] (xR g (xD h) I (xFh h) n) (some (.int (nI (sPl h c)))) (xR g (xD h) (kI h (up I [5, q] 3 1) jn c 6 (nI q) 0 (gX I c)) (xFh (hPl h c q)) n) 0 0 := by
  refine xM.of (by decide) (Nat.le_of_ble_eq_true rfl) ?_
  intro P_ e_ s m_ bl_ mt_ cd_ ls hx hb hr hown hlocks hml hnm hE hK hts hH hS hl
  have hl : lv_has ls 6 [(0, .ref (ga g [0])), (1, .int (nI c)), (2, .int (nI q))] := hl
  have hpp := (hC.2.2 c hc).1
  have hch := (hC.2.2 c hc).2
  have hWp := hW.2.2 _ hpp
  have h4 := hC.1
  have h3 := hW.1
  have h8 := hWp.1
  have hWq := hW.2.2 _ hq
  have h8q := hWq.1
  rw [← sX_get I c] at hH
  refine lv_aload_n hx hb dX6_move_0 rfl (lv_at hl 0 rfl) ?_
  refine lv_iload_n hx hb dX6_move_1 rfl (lv_at hl 1 rfl) ?_
  refine x_V1 hx hb hml hown hE hS hl.1 cyX6_existingCase tw571 (c_X6_existingCase l g h (sX I c (gX I c)) n c hc h4 hC.2.1) ⟨Nat.le_of_ble_eq_true rfl, Nat.le_of_ble_eq_true rfl⟩ ⟨Nat.le_of_ble_eq_true rfl, Nat.le_of_ble_eq_true rfl⟩ (x_recv hK hH (id := [0]) (by first | trivial | (simp only [xD]; omega) | (simp [xD]; done) | (simp [xD]; omega)) (ci := 6) rfl (by decide) rfl) hH rfl rfl (Nat.le_of_ble_eq_true rfl) dX6_move_2 (fun H locs hH hS => ?_)
  refine lv_astore_n (lv' := [(3, .ref (ga g [11, c, 0])), (0, .ref (ga g [0])), (1, .int (nI c)), (2, .int (nI q))]) hx hb dX6_move_5 rfl hl (by decide) rfl (fun ls hl => ?_)
  refine lv_aload_n hx hb dX6_move_6 rfl (lv_at hl 1 rfl) ?_
  refine lv_iload_n hx hb dX6_move_7 rfl (lv_at hl 3 rfl) ?_
  refine x_V1 hx hb hml hown hE hS hl.1 cyX6_existingPlan tw247 (c_X6_existingPlan l g h (sX I c (gX I c)) n q hq h3 hW.2.1) ⟨Nat.le_of_ble_eq_true rfl, Nat.le_of_ble_eq_true rfl⟩ ⟨Nat.le_of_ble_eq_true rfl, Nat.le_of_ble_eq_true rfl⟩ (x_recv hK hH (id := [0]) (by first | trivial | (simp only [xD]; omega) | (simp [xD]; done) | (simp [xD]; omega)) (ci := 6) rfl (by decide) rfl) hH rfl rfl (Nat.le_of_ble_eq_true rfl) dX6_move_8 (fun H locs hH hS => ?_)
  refine lv_astore (lv' := [(4, .ref (ga g [5, q])), (3, .ref (ga g [11, c, 0])), (0, .ref (ga g [0])), (1, .int (nI c)), (2, .int (nI q))]) hx hb dX6_move_11 hl (by decide) rfl (fun ls hl => ?_)
  refine lv_aload hx hb dX6_move_13 (lv_at hl 0 rfl) ?_
  refine x_get (C := RX4) (T := TX4) (N := 4) (ci := 4) hx hb hts iu4 hown hK hH (id := [5, q]) (by first | trivial | (simp only [xD]; omega) | (simp [xD]; done) | (simp [xD]; omega)) rfl rfl (by decide) 2 (by decide) (hts _ tw73) (fun _ h9 => h9) rfl (v := .int (nI (sSz h q))) (congrArg Value.int hWq.2.2.1) dX6_move_15 ?_
  refine lv_aload_n hx hb dX6_move_18 rfl (lv_at hl 1 rfl) ?_
  refine x_get (C := RX0) (T := TX0) (N := 11) (ci := 0) hx hb hts iu0 hown hK hH (id := [11, c, 0]) (by first | trivial | (simp only [xD]; omega) | (simp [xD]; done) | (simp [xD]; omega)) rfl rfl (by decide) 0 (by decide) (hts _ tw91) (fun _ h9 => h9) (sX_at _ _ _ _) (v := .ref (ga g [5, sPl h c])) rfl dX6_move_19 ?_
  refine x_get (C := RX4) (T := TX4) (N := 4) (ci := 4) hx hb hts iu4 hown hK hH (id := [5, sPl h c]) (by first | trivial | (simp only [xD]; omega) | (simp [xD]; done) | (simp [xD]; omega)) rfl rfl (by decide) 2 (by decide) (hts _ tw73) (fun _ h9 => h9) rfl (v := .int (nI (sSz h (sPl h c)))) (congrArg Value.int hWp.2.2.1) dX6_move_22 ?_
  refine lv_icmp_ge (tgt := 38) hx hb dX6_move_25 (by decide) (fun _ => ?_) (fun q_ => absurd ((nI_leI (a := (sSz h (sPl h c))) (b := (sSz h q)) (by omega) (by omega)).mpr (by omega)) q_)
  refine lv_aload_n hx hb dX6_move_38 rfl (lv_at hl 1 rfl) ?_
  refine x_get (C := RX0) (T := TX0) (N := 11) (ci := 0) hx hb hts iu0 hown hK hH (id := [11, c, 0]) (by first | trivial | (simp only [xD]; omega) | (simp [xD]; done) | (simp [xD]; omega)) rfl rfl (by decide) 0 (by decide) (hts _ tw91) (fun _ h9 => h9) (sX_at _ _ _ _) (v := .ref (ga g [5, sPl h c])) rfl dX6_move_39 ?_
  refine x_get (C := RX4) (T := TX4) (N := 4) (ci := 4) hx hb hts iu4 hown hK hH (id := [5, sPl h c]) (by first | trivial | (simp only [xD]; omega) | (simp [xD]; done) | (simp [xD]; omega)) rfl rfl (by decide) 0 (by decide) (hts _ tw70) (fun _ h9 => h9) rfl (v := .int (nI (sPl h c))) (congrArg Value.int hWp.2.1) dX6_move_42 ?_
  refine lv_istore (lv' := [(5, .int (nI (sPl h c))), (4, .ref (ga g [5, q])), (3, .ref (ga g [11, c, 0])), (0, .ref (ga g [0])), (1, .int (nI c)), (2, .int (nI q))]) hx hb dX6_move_45 hl (by decide) rfl (fun ls hl => ?_)
  refine lv_aload hx hb dX6_move_47 (lv_at hl 1 rfl) ?_
  refine lv_iconst (v := 1) hx hb dX6_move_49 (by decide) ?_
  obtain ⟨I1_, hI1_⟩ : ∃ z, z = up I [5, q] 3 1 := ⟨_, rfl⟩
  refine x_put (C := RX4) (T := TX4) (N := 4) (ci := 4) hx hb hts iu4 tyX4 tyX4_ok nmX4 hown hK hH hS (id := [5, q]) (by first | trivial | (simp only [xD]; omega) | (simp [xD]; done) | (simp [xD]; omega)) rfl rfl (by decide) 3 (by decide) (hts _ tw76) (fun _ h9 => h9) (Or.inl rfl) (ty := .boolean) (v := .int 1) (by decide +kernel) rfl rfl (I' := (sX I1_ c (gX I c))) (F' := (xFh h)) (fun i hi => by rw [show (sX I1_ c (gX I c)) = _ from Eq.symm ((sX_upJ I c (gX I c) [5, q] 3 1 (fun f => by simp)).trans (congrArg (fun z => sX z c (gX I c)) hI1_.symm))]; exact up_id hi) (fun _ _ => rfl) (fun j9 => by rw [show (sX I1_ c (gX I c)) = _ from Eq.symm ((sX_upJ I c (gX I c) [5, q] 3 1 (fun f => by simp)).trans (congrArg (fun z => sX z c (gX I c)) hI1_.symm)), up_row]; exact xv_upd rfl j9) dX6_move_50 (fun H locs hH hS => ?_)
  refine lv_aload_n hx hb dX6_move_53 rfl (lv_at hl 3 rfl) ?_
  refine lv_iload_n hx hb dX6_move_54 rfl (lv_at hl 4 rfl) ?_
  refine lv_aload_n hx hb dX6_move_55 rfl (lv_at hl 2 rfl) ?_
  refine lv_bipush (v := 6) hx hb dX6_move_56 (by decide) ?_
  refine lv_iload_n hx hb dX6_move_58 rfl (lv_at hl 5 rfl) ?_
  refine lv_iconst (v := 0) hx hb dX6_move_59 (by decide) ?_
  subst hI1_
  refine x_V0 hx hb hml hown hE hS hl.1 cyX6_noteAndDo tw484 (c_X6_noteAndDo l g h (up I [5, q] 3 1) n c (gX I c) (Or.inl hc) (sPl h c) rfl (hW.up5 q 1) 6 (by decide) (nI c) 6 (nI q) 0 rfl ⟨q, hq, rfl⟩ hch jn hjn hz) ⟨Nat.le_of_ble_eq_true rfl, Nat.le_of_ble_eq_true rfl⟩ ⟨Nat.le_of_ble_eq_true rfl, Nat.le_of_ble_eq_true rfl⟩ (x_recv hK hH (id := [0]) (by first | trivial | (simp only [xD]; omega) | (simp [xD]; done) | (simp [xD]; omega)) (ci := 6) rfl (by decide) rfl) hH rfl rfl (Nat.le_of_ble_eq_true rfl) dX6_move_60 (fun H locs hH hS => ?_)
  rw [sHap_J, sHap_U, show hPl h c (sHap h I 6 (nI q) 0 (sPl h c, (gX I c))).1 = hPl h c q from congrArg (hPl h c) (nI_clamp (by omega))] at hH
  refine lv_iload hx hb dX6_move_63 (lv_at hl 0 rfl) ?_
  exact x_iret hx hb hr hlocks hS dX6_move_65 rfl hH

theorem xCh.itr {h : xS} {I : xI} {w : Nat} {x y : Int32} : ∀ (k : Nat) {s : Nat × xX}, xCh s.2 → xCh (sItr h I w x y k s).2
  | 0, _, hc => hc
  | k + 1, _, hc => xCh.hap (xCh.itr k hc)
theorem xCh.rep {h : xS} {I : xI} {c : Int32} {s0 : Bool × (Nat × xX)} (hc : xCh s0.2.2) : ∀ r, xCh (sRep h I c s0 r).2.2
  | 0 => hc
  | r + 1 => by
    show xCh (if _ then _ else _ : Bool × (Nat × xX)).2.2
    split
    · exact xCh.itr _ (xCh.rep hc r)
    · exact xCh.rep hc r
set_option maxHeartbeats 1000000 in
set_option maxRecDepth 100000 in
theorem c_X6_stateByReplay (l : Launch) (g : xG) (h : xS) (I : xI) (n : Nat) (hW : xWs0 h I) (hC : xWc h I) (c : Nat) (hc : c < sNc h) (jn : Nat) (hjn : jn ≤ 512) (hz : I [3] 4 = nI jn) (hch4 : xCh (gX I 4)) (hJV : sJV h I (nI c) (false, (sPl h 4, gX I 4)) jn) (j : Nat) (hj : j < sSz h (sPl h c))  : xM l yX6_stateByReplay (xws yX6_stateByReplay cX6_stateByReplay 3 (some FieldType.char)) 7 156 g [.ref (ga g [0]), .int (nI c), .int (nI j)] (xR g (xD h) I (xFh h) n) (some (.int ((sRep h I (nI c) (false, (sPl h 4, gX I 4)) jn).2.2 2 j))) (xR g (xD h) (sX I 4 (sRep h I (nI c) (false, (sPl h 4, gX I 4)) jn).2.2) (xFh (hPl h 4 (sRep h I (nI c) (false, (sPl h 4, gX I 4)) jn).2.1)) n) 0 0 := by
  refine xM.of (by decide) (Nat.le_of_ble_eq_true rfl) ?_
  intro P_ e_ s m_ bl_ mt_ cd_ ls hx hb hr hown hlocks hml hnm hE hK hts hH hS hl
  have hl : lv_has ls 3 [(0, .ref (ga g [0])), (1, .int (nI c)), (2, .int (nI j))] := hl
  have hpp := (hC.2.2 c hc).1
  have hch := (hC.2.2 c hc).2
  have hWp := hW.2.2 _ hpp
  have h4 := hC.1
  have h3 := hW.1
  have h8 := hWp.1
  refine lv_aload_n hx hb dX6_stateByReplay_0 rfl (lv_at hl 0 rfl) ?_
  refine lv_iload_n hx hb dX6_stateByReplay_1 rfl (lv_at hl 1 rfl) ?_
  refine lv_iload_n hx hb dX6_stateByReplay_2 rfl (lv_at hl 2 rfl) ?_
  refine x_V1 hx hb hml hown hE hS hl.1 cyX6_caseWithStep tw651 (c_X6_caseWithStep l g h I n c hc h4 hC.2.1 (sPl h c) rfl hpp j (by omega) h8 hWp.2.2.1) ⟨Nat.le_of_ble_eq_true rfl, Nat.le_of_ble_eq_true rfl⟩ ⟨Nat.le_of_ble_eq_true rfl, Nat.le_of_ble_eq_true rfl⟩ (x_recv hK hH (id := [0]) (by first | trivial | (simp only [xD]; omega) | (simp [xD]; done) | (simp [xD]; omega)) (ci := 6) rfl (by decide) rfl) hH rfl rfl (Nat.le_of_ble_eq_true rfl) dX6_stateByReplay_3 (fun H locs hH hS => ?_)
  refine lv_pop hx hb dX6_stateByReplay_6 rfl ?_
  refine lv_aload_n hx hb dX6_stateByReplay_7 rfl (lv_at hl 0 rfl) ?_
  refine lv_iload_n hx hb dX6_stateByReplay_8 rfl (lv_at hl 1 rfl) ?_
  rw [← sX_get I 4] at hH
  refine x_V0 hx hb hml hown hE hS hl.1 cyX6_replay tw659 (c_X6_replay l g h I n c (sPl h 4) (gX I 4) rfl hW hch4 jn hjn hz hJV) ⟨Nat.le_of_ble_eq_true rfl, Nat.le_of_ble_eq_true rfl⟩ ⟨Nat.le_of_ble_eq_true rfl, Nat.le_of_ble_eq_true rfl⟩ (x_recv hK hH (id := [0]) (by first | trivial | (simp only [xD]; omega) | (simp [xD]; done) | (simp [xD]; omega)) (ci := 6) rfl (by decide) rfl) hH rfl rfl (Nat.le_of_ble_eq_true rfl) dX6_stateByReplay_9 (fun H locs hH hS => ?_)
  refine lv_aload_n hx hb dX6_stateByReplay_12 rfl (lv_at hl 0 rfl) ?_
  refine x_get (C := RX6) (T := TX6) (N := 6) (ci := 6) hx hb hts iu6 hown hK hH (id := [0]) (by first | trivial | (simp only [xD]; omega) | (simp [xD]; done) | (simp [xD]; omega)) rfl rfl (by decide) 5 (by decide) (hts _ tw136) (fun _ h9 => h9) rfl (v := .ref (ga g [11, 4, 0])) rfl dX6_stateByReplay_13 ?_
  refine lv_iload_n hx hb dX6_stateByReplay_16 rfl (lv_at hl 2 rfl) ?_
  refine x_V1 hx hb hml hown hE hS hl.1 cyX0_stateOf tw611 (c_X0_stateOf l g (hPl h 4 (sRep h I (nI c) (false, (sPl h 4, gX I 4)) jn).2.1) I n 4 (sRep h I (nI c) (false, (sPl h 4, gX I 4)) jn).2.2 (Or.inr rfl) j (by omega) (xCh.rep (s0 := (false, (sPl h 4, gX I 4))) hch4 jn)) ⟨Nat.le_of_ble_eq_true rfl, Nat.le_of_ble_eq_true rfl⟩ ⟨Nat.le_of_ble_eq_true rfl, Nat.le_of_ble_eq_true rfl⟩ (x_recv hK hH (id := [11, 4, 0]) (by first | trivial | (simp only [xD]; omega) | (simp [xD]; done) | (simp [xD]; omega)) (ci := 0) rfl (by decide) rfl) hH rfl rfl (Nat.le_of_ble_eq_true rfl) dX6_stateByReplay_17 (fun H locs hH hS => ?_)
  exact x_zret hx hb hr hlocks hS dX6_stateByReplay_20 (xCh.rep (s0 := (false, (sPl h 4, gX I 4))) hch4 jn j) rfl hH

set_option maxHeartbeats 1000000 in
set_option maxRecDepth 100000 in
theorem c_X6_clockByReplay (l : Launch) (g : xG) (h : xS) (I : xI) (n : Nat) (hW : xWs0 h I) (hC : xWc h I) (c : Nat) (hc : c < sNc h) (jn : Nat) (hjn : jn ≤ 512) (hz : I [3] 4 = nI jn) (hch4 : xCh (gX I 4)) (hJV : sJV h I (nI c) (false, (sPl h 4, gX I 4)) jn) (j : Nat) (hj : j < sSz h (sPl h c))  : xM l yX6_clockByReplay (xws yX6_clockByReplay cX6_clockByReplay 3 (some FieldType.int)) 7 156 g [.ref (ga g [0]), .int (nI c), .int (nI j)] (xR g (xD h) I (xFh h) n) (some (.int ((sRep h I (nI c) (false, (sPl h 4, gX I 4)) jn).2.2 4 j))) (xR g (xD h) (sX I 4 (sRep h I (nI c) (false, (sPl h 4, gX I 4)) jn).2.2) (xFh (hPl h 4 (sRep h I (nI c) (false, (sPl h 4, gX I 4)) jn).2.1)) n) 0 0 := by
  refine xM.of (by decide) (Nat.le_of_ble_eq_true rfl) ?_
  intro P_ e_ s m_ bl_ mt_ cd_ ls hx hb hr hown hlocks hml hnm hE hK hts hH hS hl
  have hl : lv_has ls 3 [(0, .ref (ga g [0])), (1, .int (nI c)), (2, .int (nI j))] := hl
  have hpp := (hC.2.2 c hc).1
  have hch := (hC.2.2 c hc).2
  have hWp := hW.2.2 _ hpp
  have h4 := hC.1
  have h3 := hW.1
  have h8 := hWp.1
  refine lv_aload_n hx hb dX6_clockByReplay_0 rfl (lv_at hl 0 rfl) ?_
  refine lv_iload_n hx hb dX6_clockByReplay_1 rfl (lv_at hl 1 rfl) ?_
  refine lv_iload_n hx hb dX6_clockByReplay_2 rfl (lv_at hl 2 rfl) ?_
  refine x_V1 hx hb hml hown hE hS hl.1 cyX6_caseWithStep tw651 (c_X6_caseWithStep l g h I n c hc h4 hC.2.1 (sPl h c) rfl hpp j (by omega) h8 hWp.2.2.1) ⟨Nat.le_of_ble_eq_true rfl, Nat.le_of_ble_eq_true rfl⟩ ⟨Nat.le_of_ble_eq_true rfl, Nat.le_of_ble_eq_true rfl⟩ (x_recv hK hH (id := [0]) (by first | trivial | (simp only [xD]; omega) | (simp [xD]; done) | (simp [xD]; omega)) (ci := 6) rfl (by decide) rfl) hH rfl rfl (Nat.le_of_ble_eq_true rfl) dX6_clockByReplay_3 (fun H locs hH hS => ?_)
  refine lv_pop hx hb dX6_clockByReplay_6 rfl ?_
  refine lv_aload_n hx hb dX6_clockByReplay_7 rfl (lv_at hl 0 rfl) ?_
  refine lv_iload_n hx hb dX6_clockByReplay_8 rfl (lv_at hl 1 rfl) ?_
  rw [← sX_get I 4] at hH
  refine x_V0 hx hb hml hown hE hS hl.1 cyX6_replay tw659 (c_X6_replay l g h I n c (sPl h 4) (gX I 4) rfl hW hch4 jn hjn hz hJV) ⟨Nat.le_of_ble_eq_true rfl, Nat.le_of_ble_eq_true rfl⟩ ⟨Nat.le_of_ble_eq_true rfl, Nat.le_of_ble_eq_true rfl⟩ (x_recv hK hH (id := [0]) (by first | trivial | (simp only [xD]; omega) | (simp [xD]; done) | (simp [xD]; omega)) (ci := 6) rfl (by decide) rfl) hH rfl rfl (Nat.le_of_ble_eq_true rfl) dX6_clockByReplay_9 (fun H locs hH hS => ?_)
  refine lv_aload_n hx hb dX6_clockByReplay_12 rfl (lv_at hl 0 rfl) ?_
  refine x_get (C := RX6) (T := TX6) (N := 6) (ci := 6) hx hb hts iu6 hown hK hH (id := [0]) (by first | trivial | (simp only [xD]; omega) | (simp [xD]; done) | (simp [xD]; omega)) rfl rfl (by decide) 5 (by decide) (hts _ tw136) (fun _ h9 => h9) rfl (v := .ref (ga g [11, 4, 0])) rfl dX6_clockByReplay_13 ?_
  refine lv_iload_n hx hb dX6_clockByReplay_16 rfl (lv_at hl 2 rfl) ?_
  refine x_V1 hx hb hml hown hE hS hl.1 cyX0_clockOf tw667 (c_X0_clockOf l g (hPl h 4 (sRep h I (nI c) (false, (sPl h 4, gX I 4)) jn).2.1) I n 4 (sRep h I (nI c) (false, (sPl h 4, gX I 4)) jn).2.2 (Or.inr rfl) j (by omega)) ⟨Nat.le_of_ble_eq_true rfl, Nat.le_of_ble_eq_true rfl⟩ ⟨Nat.le_of_ble_eq_true rfl, Nat.le_of_ble_eq_true rfl⟩ (x_recv hK hH (id := [11, 4, 0]) (by first | trivial | (simp only [xD]; omega) | (simp [xD]; done) | (simp [xD]; omega)) (ci := 0) rfl (by decide) rfl) hH rfl rfl (Nat.le_of_ble_eq_true rfl) dX6_clockByReplay_17 (fun H locs hH hS => ?_)
  exact x_iret hx hb hr hlocks hS dX6_clockByReplay_20 rfl hH

def sXs (I : xI) (nc : Nat) (Xf : Nat → xX) (id : List Nat) : Nat → Int32 := match id with
  | [11, d, f] => if d < nc then Xf d f else I id
  | _ => I id
theorem sXs_at (I : xI) (nc : Nat) (Xf : Nat → xX) (d f : Nat) : sXs I nc Xf [11, d, f] = if d < nc then Xf d f else I [11, d, f] := rfl
theorem gX_sXs (I : xI) {nc : Nat} (Xf : Nat → xX) {d : Nat} (h : d < nc) : gX (sXs I nc Xf) d = Xf d := by funext f; exact if_pos h
theorem sX_sXs (I : xI) {nc : Nat} (Xf : Nat → xX) {i : Nat} (X : xX) (h : i < nc) : sX (sXs I nc Xf) i X = sXs I nc (fun c => if c = i then X else Xf c) := by
  funext id
  rcases sX_cases (sXs I nc Xf) i X id with ⟨f, rfl, e⟩ | ⟨h0, e⟩
  · rw [e, sXs_at, if_pos h, if_pos rfl]
  · rw [e]
    unfold sXs
    split
    · rename_i d f
      by_cases hd : d < nc
      · rw [if_pos hd, if_pos hd]
        show Xf d f = (if d = i then X else Xf d) f
        rw [if_neg (fun z => h0 f (by rw [z]))]
      · rw [if_neg hd, if_neg hd]
    · rfl
theorem sXs_congr (I : xI) {nc : Nat} {Xf Yf : Nat → xX} (h : ∀ c, c < nc → Xf c = Yf c) : sXs I nc Xf = sXs I nc Yf := by
  funext id
  unfold sXs
  split
  · rename_i d f
    by_cases hd : d < nc
    · rw [if_pos hd, if_pos hd, h d hd]
    · rw [if_neg hd, if_neg hd]
  · rfl
theorem sXs_get (I : xI) (nc : Nat) : sXs I nc (gX I) = I := by
  funext id
  unfold sXs
  split
  · rename_i d f
    show (if d < nc then I [11, d, f] else I [11, d, f]) = _
    split <;> rfl
  · rfl
/-- in the midst of the day t: the cases ahead of i have had it -/
def sPas (h : xS) (I : xI) (t i : Nat) : Nat → xX := fun c => if c < i then (sItr h I 7 0 0 (t + 1) (sPl h c, gX I c)).2 else (sItr h I 7 0 0 t (sPl h c, gX I c)).2
theorem sItr7_1 (h : xS) (I : xI) : ∀ (t : Nat) (s : Nat × xX), (sItr h I 7 0 0 t s).1 = s.1
  | 0, _ => rfl
  | t + 1, s => sItr7_1 h I t s
theorem sPas_s (h : xS) (I : xI) (jn : Nat) (x : Int32) (t : Nat) {i : Nat} (hi : i < sNc h) : sX (sXs (sJ I jn (-1) 7 x 0) (sNc h) (sPas h I t i)) i (sHap h (sXs (sJ I jn (-1) 7 x 0) (sNc h) (sPas h I t i)) 7 0 0 (sPl h i, gX (sXs (sJ I jn (-1) 7 x 0) (sNc h) (sPas h I t i)) i)).2 = sXs (sJ I jn (-1) 7 x 0) (sNc h) (sPas h I t (i + 1)) := by
  rw [sX_sXs _ _ _ hi, gX_sXs _ _ hi]
  refine sXs_congr _ (fun c hc => ?_)
  by_cases e : c = i
  · subst e
    rw [if_pos rfl]
    unfold sPas
    rw [if_neg (by omega), if_pos (by omega)]
    show (sHap h I 7 0 0 (sPl h c, (sItr h I 7 0 0 t (sPl h c, gX I c)).2)).2 = (sHap h I 7 0 0 (sItr h I 7 0 0 t (sPl h c, gX I c))).2
    rw [show sItr h I 7 0 0 t (sPl h c, gX I c) = (sPl h c, (sItr h I 7 0 0 t (sPl h c, gX I c)).2) from Prod.ext (sItr7_1 h I t _) rfl]
  · rw [if_neg e]
    unfold sPas
    by_cases e2 : c < i
    · rw [if_pos e2, if_pos (by omega)]
    · rw [if_neg e2, if_neg (by omega)]
theorem sPas_t (h : xS) (I J : xI) (t : Nat) : sXs J (sNc h) (sPas h I t (sNc h)) = sXs J (sNc h) (sPas h I (t + 1) 0) := by
  refine sXs_congr _ (fun c hc => ?_)
  unfold sPas
  rw [if_pos hc, if_neg (by omega)]
theorem sPas_0 (h : xS) (I : xI) (jn : Nat) (x : Int32) : sJ I jn (-1) 7 x 0 = sXs (sJ I jn (-1) 7 x 0) (sNc h) (sPas h I 0 0) := (sXs_get (sJ I jn (-1) 7 x 0) (sNc h)).symm
theorem sPas_ch {h : xS} {I : xI} {t i c : Nat} (hc : xCh (gX I c)) : xCh (sPas h I t i c) := by
  unfold sPas
  split
  · exact xCh.itr _ hc
  · exact xCh.itr _ hc
/-- the numbers behind d days -/
def kP (h : xS) (I : xI) (jn d : Nat) : xI := sXs (sJ I jn (-1) 7 (nI d) 0) (sNc h) (fun c => (sItr h I 7 0 0 d (sPl h c, gX I c)).2)
theorem kP_s (h : xS) (I : xI) (jn d : Nat) : sXs (sJ I jn (-1) 7 (nI d) 0) (sNc h) (sPas h I d 0) = kP h I jn d := sXs_congr _ (fun c _ => rfl)
theorem xWc.pas {h : xS} {I : xI} (hC : xWc h I) (jn d : Nat) : xWc h (kP h I jn d) := by
  refine ⟨hC.1, hC.2.1, fun c hc => ⟨(hC.2.2 c hc).1, ?_⟩⟩
  unfold kP
  rw [gX_sXs _ _ hc]
  exact xCh.itr _ (hC.2.2 c hc).2
set_option maxHeartbeats 1000000 in
set_option maxRecDepth 100000 in
theorem c_X6_pass (l : Launch) (g : xG) (h : xS) (I : xI) (n : Nat) (hW : xWs0 h I) (hC : xWc h I) (jn : Nat) (hjn : jn < 512) (hz : I [3] 4 = nI jn) (d : Nat) (hd1 : 1 ≤ d) (hd2 : d ≤ 10) : xM l yX6_pass (xws yX6_pass cX6_pass 4 (some FieldType.int)) 6 129 g [.ref (ga g [0]), .int (nI d)] (xR g (xD h) I (xFh h) n) (some (.int (nI (sLas h (kP h I jn d) (sNc h))))) (xR g (xD h) (kP h I jn d) (xFh h) n) 0 0 := by
  refine xM.of (by decide) (Nat.le_of_ble_eq_true rfl) ?_
  intro P_ e_ s m_ bl_ mt_ cd_ ls hx hb hr hown hlocks hml hnm hE hK hts hH hS hl
  have hl : lv_has ls 4 [(0, .ref (ga g [0])), (1, .int (nI d))] := hl
  have h4 := hC.1
  refine lv_iload_n hx hb dX6_pass_0 rfl (lv_at hl 1 rfl) ?_
  refine lv_iconst (v := 1) hx hb dX6_pass_1 (by decide) ?_
  refine lv_icmp_lt (tgt := 11) hx hb dX6_pass_2 (by decide) (fun q_ => absurd q_ (fun z_ => absurd ((nI_ltI (a := d) (b := 1) (by omega) (by omega)).mp z_) (by omega))) (fun _ => ?_)
  refine lv_iload_n hx hb dX6_pass_5 rfl (lv_at hl 1 rfl) ?_
  refine lv_bipush (v := 10) hx hb dX6_pass_6 (by decide) ?_
  refine lv_icmp_le (tgt := 21) hx hb dX6_pass_8 (by decide) (fun _ => ?_) (fun q_ => absurd ((nI_leI (a := d) (b := 10) (by omega) (by omega)).mpr (by omega)) q_)
  refine lv_aload_n hx hb dX6_pass_21 rfl (lv_at hl 0 rfl) ?_
  refine x_get (C := RX6) (T := TX6) (N := 6) (ci := 6) hx hb hts iu6 hown hK hH (id := [0]) (by first | trivial | (simp only [xD]; omega) | (simp [xD]; done) | (simp [xD]; omega)) rfl rfl (by decide) 4 (by decide) (hts _ tw135) (fun _ h9 => h9) rfl (v := .ref (ga g [3])) rfl dX6_pass_22 ?_
  refine lv_iconst (v := (-1)) hx hb dX6_pass_25 (by decide) ?_
  refine lv_bipush (v := 7) hx hb dX6_pass_26 (by decide) ?_
  refine lv_iload_n hx hb dX6_pass_28 rfl (lv_at hl 1 rfl) ?_
  refine lv_iconst (v := 0) hx hb dX6_pass_29 (by decide) ?_
  refine x_V0 hx hb hml hown hE hS hl.1 cyX3_append tw488 (c_X3_append l g h I n jn (-1) 7 (nI d) 0 hjn hz) ⟨Nat.le_of_ble_eq_true rfl, Nat.le_of_ble_eq_true rfl⟩ ⟨Nat.le_of_ble_eq_true rfl, Nat.le_of_ble_eq_true rfl⟩ (x_recv hK hH (id := [3]) (by first | trivial | (simp only [xD]; omega) | (simp [xD]; done) | (simp [xD]; omega)) (ci := 3) rfl (by decide) rfl) hH rfl rfl (Nat.le_of_ble_eq_true rfl) dX6_pass_30 (fun H locs hH hS => ?_)
  refine lv_iconst (v := 0) hx hb dX6_pass_33 (by decide) ?_
  refine lv_istore_n (lv' := [(2, .int 0), (0, .ref (ga g [0])), (1, .int (nI d))]) hx hb dX6_pass_34 rfl hl (by decide) rfl (fun ls hl => ?_)
  rw [sPas_0 h I jn (nI d)] at hH
  have L35 : ∀ (fu : Nat) (t : Nat) (H : Heap) (locs : List Loc) (ls : Array Slot), (t ≤ d) → d - t < fu → xR g (xD h) (sXs (sJ I jn (-1) 7 (nI d) 0) (sNc h) (sPas h I t 0)) (xFh h) n H → va_S (gA g) s.heap H locs → lv_has ls 4 [(0, .ref (ga g [0])), (1, .int (nI d)), (2, .int (nI t))] → W P_ l e_ { frames := 6, cells := 0, slots := 0, locals := 129 } s m_ ([.ref (ga g [0]), .int (nI d)] : List Value).toArray bl_ mt_ cd_ H locs 0 0 (MQ bl_ (xQc g (some (.int (nI (sLas h (kP h I jn d) (sNc h))))) (xR g (xD h) (kP h I jn d) (xFh h) n)) ([.ref (ga g [0]), .int (nI d)] : List Value).toArray s 0 0 (gA g)) (F0 m_ 35 ls []) := by
    intro fu
    induction fu with
    | zero => intro t H locs ls ht hfu; exact absurd hfu (Nat.not_lt_zero _)
    | succ fu ih35 =>
      intro t H locs ls ht hfu hH hS hl
      refine lv_iload_n hx hb dX6_pass_35 rfl (lv_at hl 2 rfl) ?_
      refine lv_iload_n hx hb dX6_pass_36 rfl (lv_at hl 1 rfl) ?_
      refine lv_icmp_ge (tgt := 75) hx hb dX6_pass_37 (by decide) (fun c_37 => ?_) (fun c_37 => ?_)
      · skip
        have c_37 := (nI_leI (a := d) (b := t) (by omega) (by omega)).mp c_37
        refine lv_aload_n hx hb dX6_pass_75 rfl (lv_at hl 0 rfl) ?_
        rw [show t = d by omega, kP_s] at hH
        refine x_V1 hx hb hml hown hE hS hl.1 cyX6_lateTasksOfAll tw628 (c_X6_lateTasksOfAll l g h (kP h I jn d) n hW (hC.pas jn d)) ⟨Nat.le_of_ble_eq_true rfl, Nat.le_of_ble_eq_true rfl⟩ ⟨Nat.le_of_ble_eq_true rfl, Nat.le_of_ble_eq_true rfl⟩ (x_recv hK hH (id := [0]) (by first | trivial | (simp only [xD]; omega) | (simp [xD]; done) | (simp [xD]; omega)) (ci := 6) rfl (by decide) rfl) hH rfl rfl (Nat.le_of_ble_eq_true rfl) dX6_pass_76 (fun H locs hH hS => ?_)
        exact x_iret hx hb hr hlocks hS dX6_pass_79 rfl hH
      · skip
        have c_37 : ¬ _ := fun z_ => c_37 ((nI_leI (a := d) (b := t) (by omega) (by omega)).mpr z_)
        refine lv_iconst (v := 0) hx hb dX6_pass_40 (by decide) ?_
        refine lv_istore_n (lv' := [(3, .int 0), (0, .ref (ga g [0])), (1, .int (nI d)), (2, .int (nI t))]) hx hb dX6_pass_41 rfl hl (by decide) rfl (fun ls hl => ?_)
        have L42 : ∀ (fu : Nat) (i : Nat) (H : Heap) (locs : List Loc) (ls : Array Slot), (i ≤ sNc h) → sNc h - i < fu → xR g (xD h) (sXs (sJ I jn (-1) 7 (nI d) 0) (sNc h) (sPas h I t i)) (xFh h) n H → va_S (gA g) s.heap H locs → lv_has ls 4 [(0, .ref (ga g [0])), (1, .int (nI d)), (2, .int (nI t)), (3, .int (nI i))] → W P_ l e_ { frames := 6, cells := 0, slots := 0, locals := 129 } s m_ ([.ref (ga g [0]), .int (nI d)] : List Value).toArray bl_ mt_ cd_ H locs 0 0 (MQ bl_ (xQc g (some (.int (nI (sLas h (kP h I jn d) (sNc h))))) (xR g (xD h) (kP h I jn d) (xFh h) n)) ([.ref (ga g [0]), .int (nI d)] : List Value).toArray s 0 0 (gA g)) (F0 m_ 42 ls []) := by
          intro fu
          induction fu with
          | zero => intro i H locs ls hi hfu; exact absurd hfu (Nat.not_lt_zero _)
          | succ fu ih42 =>
            intro i H locs ls hi hfu hH hS hl
            refine lv_iload_n hx hb dX6_pass_42 rfl (lv_at hl 3 rfl) ?_
            refine lv_aload_n hx hb dX6_pass_43 rfl (lv_at hl 0 rfl) ?_
            refine x_get (C := RX6) (T := TX6) (N := 6) (ci := 6) hx hb hts iu6 hown hK hH (id := [0]) (by first | trivial | (simp only [xD]; omega) | (simp [xD]; done) | (simp [xD]; omega)) rfl rfl (by decide) 3 (by decide) (hts _ tw134) (fun _ h9 => h9) rfl (v := .int (nI (sNc h))) (congrArg Value.int hC.2.1) dX6_pass_44 ?_
            refine lv_icmp_ge (tgt := 69) hx hb dX6_pass_47 (by decide) (fun c_47 => ?_) (fun c_47 => ?_)
            · skip
              have c_47 := (nI_leI (a := (sNc h)) (b := i) (by omega) (by omega)).mp c_47
              refine lv_iinc (v := (nI (t + 1))) (lv' := [(2, .int (nI (t + 1))), (0, .ref (ga g [0])), (1, .int (nI d)), (3, .int (nI i))]) hx hb dX6_pass_69 hl (k := 2) rfl (by first | rfl | exact nI_1 _ | exact nI_add _ _) (by decide) rfl (fun ls hl => ?_)
              refine lv_goto (tgt := 35) hx hb dX6_pass_72 (by decide) ?_
              rw [show i = sNc h by omega, sPas_t] at hH
              exact ih35 (t + 1) _ _ _ (by omega) (by omega) hH hS (lv_sub hl [1, 2, 0] rfl)
            · skip
              have c_47 : ¬ _ := fun z_ => c_47 ((nI_leI (a := (sNc h)) (b := i) (by omega) (by omega)).mpr z_)
              refine lv_aload_n hx hb dX6_pass_50 rfl (lv_at hl 0 rfl) ?_
              refine lv_aload_n hx hb dX6_pass_51 rfl (lv_at hl 0 rfl) ?_
              refine lv_iload_n hx hb dX6_pass_52 rfl (lv_at hl 3 rfl) ?_
              refine x_V1 hx hb hml hown hE hS hl.1 cyX6_caseAt tw575 (c_X6_caseAt l g h (sXs (sJ I jn (-1) 7 (nI d) 0) (sNc h) (sPas h I t i)) n i (by omega) h4 hC.2.1) ⟨Nat.le_of_ble_eq_true rfl, Nat.le_of_ble_eq_true rfl⟩ ⟨Nat.le_of_ble_eq_true rfl, Nat.le_of_ble_eq_true rfl⟩ (x_recv hK hH (id := [0]) (by first | trivial | (simp only [xD]; omega) | (simp [xD]; done) | (simp [xD]; omega)) (ci := 6) rfl (by decide) rfl) hH rfl rfl (Nat.le_of_ble_eq_true rfl) dX6_pass_53 (fun H locs hH hS => ?_)
              refine lv_bipush (v := 7) hx hb dX6_pass_56 (by decide) ?_
              refine lv_iconst (v := 0) hx hb dX6_pass_58 (by decide) ?_
              refine lv_iconst (v := 0) hx hb dX6_pass_59 (by decide) ?_
              rw [← sX_get (sXs (sJ I jn (-1) 7 (nI d) 0) (sNc h) (sPas h I t i)) i] at hH
              have hpi := (hC.2.2 i (by omega)).1
              have hchi : xCh (gX (sXs (sJ I jn (-1) 7 (nI d) 0) (sNc h) (sPas h I t i)) i) := by rw [gX_sXs _ _ (by omega)]; exact sPas_ch (hC.2.2 i (by omega)).2
              refine x_V0 hx hb hml hown hE hS hl.1 cyX6_letHappen tw492 (c_X6_letHappen l g h (sXs (sJ I jn (-1) 7 (nI d) 0) (sNc h) (sPas h I t i)) n i (gX (sXs (sJ I jn (-1) 7 (nI d) 0) (sNc h) (sPas h I t i)) i) (Or.inl (by omega)) (sPl h i) rfl hW 7 (by decide) 7 0 0 rfl hpi hchi) ⟨Nat.le_of_ble_eq_true rfl, Nat.le_of_ble_eq_true rfl⟩ ⟨Nat.le_of_ble_eq_true rfl, Nat.le_of_ble_eq_true rfl⟩ (x_recv hK hH (id := [0]) (by first | trivial | (simp only [xD]; omega) | (simp [xD]; done) | (simp [xD]; omega)) (ci := 6) rfl (by decide) rfl) hH rfl rfl (Nat.le_of_ble_eq_true rfl) dX6_pass_60 (fun H locs hH hS => ?_)
              rw [show hPl h i (sHap h (sXs (sJ I jn (-1) 7 (nI d) 0) (sNc h) (sPas h I t i)) 7 0 0 (sPl h i, gX (sXs (sJ I jn (-1) 7 (nI d) 0) (sNc h) (sPas h I t i)) i)).1 = h from hPl_self h i, sPas_s h I jn (nI d) t (by omega)] at hH
              refine lv_iinc (v := (nI (i + 1))) (lv' := [(3, .int (nI (i + 1))), (0, .ref (ga g [0])), (1, .int (nI d)), (2, .int (nI t))]) hx hb dX6_pass_63 hl (k := 3) rfl (by first | rfl | exact nI_1 _ | exact nI_add _ _) (by decide) rfl (fun ls hl => ?_)
              refine lv_goto (tgt := 42) hx hb dX6_pass_66 (by decide) ?_
              exact ih42 (i + 1) _ _ _ (by omega) (by omega) hH hS (lv_sub hl [1, 2, 3, 0] rfl)
        exact L42 _ 0 _ _ _ (by omega) (Nat.lt_succ_self _) hH hS (lv_sub hl [1, 2, 3, 0] rfl)
  exact L35 _ 0 _ _ _ (by omega) (Nat.lt_succ_self _) hH hS (lv_sub hl [1, 2, 0] rfl)
