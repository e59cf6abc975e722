/-! CONTRACTS: the model, what is asked of arguments -/
def mIn (v lo hi : Int32) : Bool := decide (lo ≤ v) && decide (v ≤ hi)
theorem mIn_sIn {x : Int32} {q : Nat} (hq : q ≤ 100) : mIn x 0 (nI q - 1) = sIn x 0 (nI q) := by
  unfold mIn sIn
  have e : (nI q - 1).toInt = (q : Int) - 1 := by
    rw [Int32.toInt_sub, nI_toInt (by omega)]
    have : (1 : Int32).toInt = 1 := by decide
    rw [this, Int.bmod_eq_of_le (by omega) (by omega)]
  have e2 : (nI q).toInt = (q : Int) := nI_toInt (by omega)
  have a : decide (0 ≤ x) = !decide (x < 0) := by
    by_cases h : x < 0
    · rw [decide_eq_true h, decide_eq_false (fun z => absurd h (Int32.not_lt.mpr z))]; rfl
    · rw [decide_eq_false h, decide_eq_true (Int32.not_lt.mp h)]; rfl
  have b : decide (x ≤ nI q - 1) = !decide (nI q ≤ x) := by
    by_cases h : nI q ≤ x
    · rw [decide_eq_true h, decide_eq_false (fun z => by rw [Int32.le_iff_toInt_le] at h z; omega)]; rfl
    · rw [decide_eq_false h, decide_eq_true (by rw [Int32.le_iff_toInt_le] at h ⊢; omega)]; rfl
  rw [a, b]
theorem mIn_4 (a : Int32) : mIn a 0 3 = sIn a 0 4 := by
  rw [show (3 : Int32) = nI 4 - 1 from by decide, mIn_sIn (by omega)]; rfl
theorem mIn_10 (a : Int32) : mIn a 0 9 = sIn a 0 10 := by
  rw [show (9 : Int32) = nI 10 - 1 from by decide, mIn_sIn (by omega)]; rfl
theorem dec_le (a b : Int32) : decide (a ≤ b) = !decide (b < a) := by
  by_cases h : b < a
  · rw [decide_eq_true h, decide_eq_false (fun z => absurd h (Int32.not_lt.mpr z))]; rfl
  · rw [decide_eq_false h, decide_eq_true (Int32.not_lt.mp h)]; rfl
theorem mIn_v (b : Int32) : mIn b (-99) 99 = sVl b := by unfold mIn sVl; rw [dec_le, dec_le]
theorem mIn_d (a : Int32) : mIn a 0 999 = (!decide (a < 0) && !decide (999 < a)) := by unfold mIn; rw [dec_le, dec_le]
set_option maxHeartbeats 1000000 in
set_option maxRecDepth 100000 in
theorem c_X7_in (l : Launch) (g : xG) (h : xS) (I : xI) (n : Nat) (v lo hi : Int32) : xM l yX7_in (xws yX7_in cX7_in 3 (some FieldType.boolean)) 1 12 g [.int v, .int lo, .int hi] (xR g (xD h) I (xFh h) n) (some (.int (b01 (mIn v lo hi)))) (xR g (xD h) I (xFh h) n) 0 0 := by
  refine xM.of (by decide) (Nat.le_of_ble_eq_true rfl) ?_
  intro P_ e_ s m_ bl_ mt_ cd_ ls hx hb hr hown hlocks hml hnm hE hK hts hH hS hl
  have hl : lv_has ls 3 [(0, .int v), (1, .int lo), (2, .int hi)] := hl
  refine lv_iload_n hx hb dX7_in_0 rfl (lv_at hl 0 rfl) ?_
  refine lv_iload_n hx hb dX7_in_1 rfl (lv_at hl 1 rfl) ?_
  refine lv_icmp_lt (tgt := 14) hx hb dX7_in_2 (by decide) (fun c_2 => ?_) (fun c_2 => ?_)
  · skip
    refine lv_iconst (v := 0) hx hb dX7_in_14 (by decide) ?_
    exact x_zret hx hb hr hlocks hS dX7_in_15 rfl (b01_f (by unfold mIn; rw [decide_eq_false (fun z => absurd c_2 (Int32.not_lt.mpr z))]; rfl)) hH
  · skip
    refine lv_iload_n hx hb dX7_in_5 rfl (lv_at hl 0 rfl) ?_
    refine lv_iload_n hx hb dX7_in_6 rfl (lv_at hl 2 rfl) ?_
    refine lv_icmp_gt (tgt := 14) hx hb dX7_in_7 (by decide) (fun c_7 => ?_) (fun c_7 => ?_)
    · skip
      refine lv_iconst (v := 0) hx hb dX7_in_14 (by decide) ?_
      exact x_zret hx hb hr hlocks hS dX7_in_15 rfl (b01_f (by unfold mIn; rw [decide_eq_false (fun z => absurd c_7 (Int32.not_lt.mpr z))]; exact Bool.and_false _)) hH
    · skip
      refine lv_iconst (v := 1) hx hb dX7_in_10 (by decide) ?_
      refine lv_goto (tgt := 15) hx hb dX7_in_11 (by decide) ?_
      exact x_zret hx hb hr hlocks hS dX7_in_15 rfl (b01_t (by unfold mIn; rw [decide_eq_true (Int32.not_lt.mp c_2), decide_eq_true (Int32.not_lt.mp c_7)]; rfl)) hH

set_option maxHeartbeats 1000000 in
set_option maxRecDepth 100000 in
theorem c_X7_thrown (l : Launch) (g : xG) (h : xS) (I : xI) (n : Nat)  : xM l yX7_thrown (xws yX7_thrown cX7_thrown 1 (some FieldType.int)) 1 12 g [.ref (ga g [20])] (xR g (xD h) I (xFh h) n) (some (.int (I [20] 23))) (xR g (xD h) I (xFh h) n) 0 0 := by
  refine xM.of (by decide) (Nat.le_of_ble_eq_true rfl) ?_
  intro P_ e_ s m_ bl_ mt_ cd_ ls hx hb hr hown hlocks hml hnm hE hK hts hH hS hl
  have hl : lv_has ls 1 [(0, .ref (ga g [20]))] := hl
  refine lv_aload_n hx hb dX7_thrown_0 rfl (lv_at hl 0 rfl) ?_
  refine x_get (C := RX7) (T := TX7) (N := 24) (ci := 7) hx hb hts iu7 hown hK hH (id := [20]) (by first | trivial | (simp only [xD]; omega) | (simp [xD]; done) | (simp [xD]; omega)) rfl rfl (by decide) 23 (by decide) (hts _ tw862) (fun _ h9 => h9) rfl (v := .int (I [20] 23)) rfl dX7_thrown_1 ?_
  exact x_iret hx hb hr hlocks hS dX7_thrown_4 rfl hH

set_option maxHeartbeats 1000000 in
set_option maxRecDepth 100000 in
theorem c_X7_raises (l : Launch) (g : xG) (h : xS) (I : xI) (n : Nat) (k : Int32) : xM l yX7_raises (xws yX7_raises cX7_raises 2 (some FieldType.int)) 1 12 g [.ref (ga g [20]), .int k] (xR g (xD h) I (xFh h) n) (some (.int 0)) (xR g (xD h) (up I [20] 23 k) (xFh h) n) 0 0 := by
  refine xM.of (by decide) (Nat.le_of_ble_eq_true rfl) ?_
  intro P_ e_ s m_ bl_ mt_ cd_ ls hx hb hr hown hlocks hml hnm hE hK hts hH hS hl
  have hl : lv_has ls 2 [(0, .ref (ga g [20])), (1, .int k)] := hl
  refine lv_aload_n hx hb dX7_raises_0 rfl (lv_at hl 0 rfl) ?_
  refine lv_iload_n hx hb dX7_raises_1 rfl (lv_at hl 1 rfl) ?_
  obtain ⟨I1_, hI1_⟩ : ∃ z, z = up I [20] 23 k := ⟨_, rfl⟩
  refine x_put (C := RX7) (T := TX7) (N := 24) (ci := 7) hx hb hts iu7 tyX7 tyX7_ok nmX7 hown hK hH hS (id := [20]) (by first | trivial | (simp only [xD]; omega) | (simp [xD]; done) | (simp [xD]; omega)) rfl rfl (by decide) 23 (by decide) (hts _ tw862) (fun _ h9 => h9) (Or.inl rfl) (ty := .int) (v := .int k) (by decide +kernel) rfl rfl (I' := I1_) (F' := (xFh h)) (fun i hi => by rw [hI1_]; exact up_id hi) (fun _ _ => rfl) (fun j9 => by rw [hI1_, up_row]; exact xv_upd (ci := 7) (k := 23) rfl j9) dX7_raises_2 (fun H locs hH hS => ?_)
  refine lv_iconst (v := 0) hx hb dX7_raises_5 (by decide) ?_
  exact x_iret hx hb hr hlocks hS dX7_raises_6 rfl (by rw [hI1_] at hH; exact hH)

set_option maxHeartbeats 1000000 in
set_option maxRecDepth 100000 in
theorem c_X7_isPlan (l : Launch) (g : xG) (h : xS) (I : xI) (n : Nat) (x : Int32) (q : Nat) (hq : q ≤ 8) (hz : I [20] 10 = nI q) : xM l yX7_isPlan (xws yX7_isPlan cX7_isPlan 2 (some FieldType.boolean)) 2 34 g [.ref (ga g [20]), .int x] (xR g (xD h) I (xFh h) n) (some (.int (b01 (sIn x 0 (nI q))))) (xR g (xD h) I (xFh h) n) 0 0 := by
  refine xM.of (by decide) (Nat.le_of_ble_eq_true rfl) ?_
  intro P_ e_ s m_ bl_ mt_ cd_ ls hx hb hr hown hlocks hml hnm hE hK hts hH hS hl
  have hl : lv_has ls 2 [(0, .ref (ga g [20])), (1, .int x)] := hl
  refine lv_iload_n hx hb dX7_isPlan_0 rfl (lv_at hl 1 rfl) ?_
  refine lv_iconst (v := 0) hx hb dX7_isPlan_1 (by decide) ?_
  refine lv_aload_n hx hb dX7_isPlan_2 rfl (lv_at hl 0 rfl) ?_
  refine x_get (C := RX7) (T := TX7) (N := 24) (ci := 7) hx hb hts iu7 hown hK hH (id := [20]) (by first | trivial | (simp only [xD]; omega) | (simp [xD]; done) | (simp [xD]; omega)) rfl rfl (by decide) 10 (by decide) (hts _ tw849) (fun _ h9 => h9) rfl (v := .int (nI q)) (congrArg Value.int (hz)) dX7_isPlan_3 ?_
  refine lv_iconst (v := 1) hx hb dX7_isPlan_6 (by decide) ?_
  refine lv_isub hx hb dX7_isPlan_7 ?_
  refine x_S1 hx hb hml hown hE hS hl.1 cyX7_in tw933 (c_X7_in l g h I n x 0 (((nI q) - 1))) ⟨Nat.le_of_ble_eq_true rfl, Nat.le_of_ble_eq_true rfl⟩ ⟨Nat.le_of_ble_eq_true rfl, Nat.le_of_ble_eq_true rfl⟩ hH rfl rfl (Nat.le_of_ble_eq_true rfl) dX7_isPlan_8 (fun H locs hH hS => ?_)
  exact x_zret hx hb hr hlocks hS dX7_isPlan_11 (b01_nar _) (by rw [mIn_sIn (by omega)]) hH

set_option maxHeartbeats 1000000 in
set_option maxRecDepth 100000 in
theorem c_X7_isCase (l : Launch) (g : xG) (h : xS) (I : xI) (n : Nat) (x : Int32) (q : Nat) (hq : q ≤ 8) (hz : I [20] 20 = nI q) : xM l yX7_isCase (xws yX7_isCase cX7_isCase 2 (some FieldType.boolean)) 2 34 g [.ref (ga g [20]), .int x] (xR g (xD h) I (xFh h) n) (some (.int (b01 (sIn x 0 (nI q))))) (xR g (xD h) I (xFh h) n) 0 0 := by
  refine xM.of (by decide) (Nat.le_of_ble_eq_true rfl) ?_
  intro P_ e_ s m_ bl_ mt_ cd_ ls hx hb hr hown hlocks hml hnm hE hK hts hH hS hl
  have hl : lv_has ls 2 [(0, .ref (ga g [20])), (1, .int x)] := hl
  refine lv_iload_n hx hb dX7_isCase_0 rfl (lv_at hl 1 rfl) ?_
  refine lv_iconst (v := 0) hx hb dX7_isCase_1 (by decide) ?_
  refine lv_aload_n hx hb dX7_isCase_2 rfl (lv_at hl 0 rfl) ?_
  refine x_get (C := RX7) (T := TX7) (N := 24) (ci := 7) hx hb hts iu7 hown hK hH (id := [20]) (by first | trivial | (simp only [xD]; omega) | (simp [xD]; done) | (simp [xD]; omega)) rfl rfl (by decide) 20 (by decide) (hts _ tw859) (fun _ h9 => h9) rfl (v := .int (nI q)) (congrArg Value.int (hz)) dX7_isCase_3 ?_
  refine lv_iconst (v := 1) hx hb dX7_isCase_6 (by decide) ?_
  refine lv_isub hx hb dX7_isCase_7 ?_
  refine x_S1 hx hb hml hown hE hS hl.1 cyX7_in tw933 (c_X7_in l g h I n x 0 (((nI q) - 1))) ⟨Nat.le_of_ble_eq_true rfl, Nat.le_of_ble_eq_true rfl⟩ ⟨Nat.le_of_ble_eq_true rfl, Nat.le_of_ble_eq_true rfl⟩ hH rfl rfl (Nat.le_of_ble_eq_true rfl) dX7_isCase_8 (fun H locs hH hS => ?_)
  exact x_zret hx hb hr hlocks hS dX7_isCase_11 (b01_nar _) (by rw [mIn_sIn (by omega)]) hH

set_option maxHeartbeats 1000000 in
set_option maxRecDepth 100000 in
theorem c_X7_isStep_0 (l : Launch) (g : xG) (h : xS) (I : xI) (n : Nat) (q : Nat) (hq : q ≤ 3) (hz : I [20] 10 = nI q) (x y : Int32) (hxb : sIn x 0 (nI q) = false) : xM l yX7_isStep (xws yX7_isStep cX7_isStep 3 (some FieldType.boolean)) 3 55 g [.ref (ga g [20]), .int x, .int y] (xR g (xD h) I (xFh h) n) (some (.int 0)) (xR g (xD h) I (xFh h) n) 0 0 := by
  refine xM.of (by decide) (Nat.le_of_ble_eq_true rfl) ?_
  intro P_ e_ s m_ bl_ mt_ cd_ ls hx hb hr hown hlocks hml hnm hE hK hts hH hS hl
  have hl : lv_has ls 3 [(0, .ref (ga g [20])), (1, .int x), (2, .int y)] := hl
  refine lv_aload_n hx hb dX7_isStep_0 rfl (lv_at hl 0 rfl) ?_
  refine lv_iload_n hx hb dX7_isStep_1 rfl (lv_at hl 1 rfl) ?_
  refine x_V1 hx hb hml hown hE hS hl.1 cyX7_isPlan tw929 (c_X7_isPlan l g h I n x q (by omega) hz) ⟨Nat.le_of_ble_eq_true rfl, Nat.le_of_ble_eq_true rfl⟩ ⟨Nat.le_of_ble_eq_true rfl, Nat.le_of_ble_eq_true rfl⟩ (x_recv hK hH (id := [20]) (by first | trivial | (simp only [xD]; omega) | (simp [xD]; done) | (simp [xD]; omega)) (ci := 7) rfl (by decide) rfl) hH rfl rfl (Nat.le_of_ble_eq_true rfl) dX7_isStep_2 (fun H locs hH hS => ?_)
  refine lv_if_eq (tgt := 28) hx hb dX7_isStep_5 (by decide) (fun _ => ?_) (fun q_ => absurd ((b01_eq0 _).mpr hxb) q_)
  refine lv_iconst (v := 0) hx hb dX7_isStep_28 (by decide) ?_
  exact x_zret hx hb hr hlocks hS dX7_isStep_29 rfl rfl hH

set_option maxHeartbeats 1000000 in
set_option maxRecDepth 100000 in
theorem c_X7_isStep_1 (l : Launch) (g : xG) (h : xS) (I : xI) (n : Nat) (q : Nat) (hq : q ≤ 3) (hz : I [20] 10 = nI q) (p : Nat) (hp : p < q) (k : Nat) (hk : k ≤ 8) (hs : I [24, 8] p = nI k) (y : Int32) : xM l yX7_isStep (xws yX7_isStep cX7_isStep 3 (some FieldType.boolean)) 3 55 g [.ref (ga g [20]), .int (nI p), .int y] (xR g (xD h) I (xFh h) n) (some (.int (b01 (sIn y 0 (nI k))))) (xR g (xD h) I (xFh h) n) 0 0 := by
  refine xM.of (by decide) (Nat.le_of_ble_eq_true rfl) ?_
  intro P_ e_ s m_ bl_ mt_ cd_ ls hx hb hr hown hlocks hml hnm hE hK hts hH hS hl
  have hl : lv_has ls 3 [(0, .ref (ga g [20])), (1, .int (nI p)), (2, .int y)] := hl
  refine lv_aload_n hx hb dX7_isStep_0 rfl (lv_at hl 0 rfl) ?_
  refine lv_iload_n hx hb dX7_isStep_1 rfl (lv_at hl 1 rfl) ?_
  refine x_V1 hx hb hml hown hE hS hl.1 cyX7_isPlan tw929 (c_X7_isPlan l g h I n ((nI p)) q (by omega) hz) ⟨Nat.le_of_ble_eq_true rfl, Nat.le_of_ble_eq_true rfl⟩ ⟨Nat.le_of_ble_eq_true rfl, Nat.le_of_ble_eq_true rfl⟩ (x_recv hK hH (id := [20]) (by first | trivial | (simp only [xD]; omega) | (simp [xD]; done) | (simp [xD]; omega)) (ci := 7) rfl (by decide) rfl) hH rfl rfl (Nat.le_of_ble_eq_true rfl) dX7_isStep_2 (fun H locs hH hS => ?_)
  refine lv_if_eq (tgt := 28) hx hb dX7_isStep_5 (by decide) (fun q_ => absurd q_ (fun z_ => by rw [sIn_nI hp (by omega)] at z_; exact absurd z_ (by decide))) (fun _ => ?_)
  refine lv_iload_n hx hb dX7_isStep_8 rfl (lv_at hl 2 rfl) ?_
  refine lv_iconst (v := 0) hx hb dX7_isStep_9 (by decide) ?_
  refine lv_aload_n hx hb dX7_isStep_10 rfl (lv_at hl 0 rfl) ?_
  refine x_get (C := RX7) (T := TX7) (N := 24) (ci := 7) hx hb hts iu7 hown hK hH (id := [20]) (by first | trivial | (simp only [xD]; omega) | (simp [xD]; done) | (simp [xD]; omega)) rfl rfl (by decide) 8 (by decide) (hts _ tw847) (fun _ h9 => h9) rfl (v := .ref (ga g [24, 8])) rfl dX7_isStep_11 ?_
  refine lv_iload_n hx hb dX7_isStep_14 rfl (lv_at hl 1 rfl) ?_
  refine x_iald hx hb hK hH (id := [24, 8]) (by first | trivial | (simp only [xD]; omega) | (simp [xD]; done) | (simp [xD]; omega)) (L := 3) rfl rfl p rfl (by omega) (by decide) dX7_isStep_15 ?_
  rw [show (I [24, 8] p) = (nI k) from (hs)]
  refine lv_iconst (v := 1) hx hb dX7_isStep_16 (by decide) ?_
  refine lv_isub hx hb dX7_isStep_17 ?_
  refine x_S1 hx hb hml hown hE hS hl.1 cyX7_in tw933 (c_X7_in l g h I n y 0 (((nI k) - 1))) ⟨Nat.le_of_ble_eq_true rfl, Nat.le_of_ble_eq_true rfl⟩ ⟨Nat.le_of_ble_eq_true rfl, Nat.le_of_ble_eq_true rfl⟩ hH rfl rfl (Nat.le_of_ble_eq_true rfl) dX7_isStep_18 (fun H locs hH hS => ?_)
  refine lv_if_eq (tgt := 28) hx hb dX7_isStep_21 (by decide) (fun c_21 => ?_) (fun c_21 => ?_)
  · skip
    refine lv_iconst (v := 0) hx hb dX7_isStep_28 (by decide) ?_
    exact x_zret hx hb hr hlocks hS dX7_isStep_29 rfl (b01_f (by rw [← mIn_sIn (by omega)]; exact (b01_eq0 _).mp c_21)) hH
  · skip
    refine lv_iconst (v := 1) hx hb dX7_isStep_24 (by decide) ?_
    refine lv_goto (tgt := 29) hx hb dX7_isStep_25 (by decide) ?_
    exact x_zret hx hb hr hlocks hS dX7_isStep_29 rfl (b01_t (by rw [← mIn_sIn (by omega)]; exact b01_ne0 c_21)) hH

set_option maxHeartbeats 1000000 in
set_option maxRecDepth 100000 in
theorem c_X7_isStepOf_0 (l : Launch) (g : xG) (h : xS) (I : xI) (n : Nat) (m : Nat) (hm4 : m ≤ 4) (hm : I [20] 20 = nI m) (x y : Int32) (hxb : sIn x 0 (nI m) = false) : xM l yX7_isStepOf (xws yX7_isStepOf cX7_isStepOf 3 (some FieldType.boolean)) 3 55 g [.ref (ga g [20]), .int x, .int y] (xR g (xD h) I (xFh h) n) (some (.int 0)) (xR g (xD h) I (xFh h) n) 0 0 := by
  refine xM.of (by decide) (Nat.le_of_ble_eq_true rfl) ?_
  intro P_ e_ s m_ bl_ mt_ cd_ ls hx hb hr hown hlocks hml hnm hE hK hts hH hS hl
  have hl : lv_has ls 3 [(0, .ref (ga g [20])), (1, .int x), (2, .int y)] := hl
  refine lv_aload_n hx hb dX7_isStepOf_0 rfl (lv_at hl 0 rfl) ?_
  refine lv_iload_n hx hb dX7_isStepOf_1 rfl (lv_at hl 1 rfl) ?_
  refine x_V1 hx hb hml hown hE hS hl.1 cyX7_isCase tw1016 (c_X7_isCase l g h I n x m (by omega) hm) ⟨Nat.le_of_ble_eq_true rfl, Nat.le_of_ble_eq_true rfl⟩ ⟨Nat.le_of_ble_eq_true rfl, Nat.le_of_ble_eq_true rfl⟩ (x_recv hK hH (id := [20]) (by first | trivial | (simp only [xD]; omega) | (simp [xD]; done) | (simp [xD]; omega)) (ci := 7) rfl (by decide) rfl) hH rfl rfl (Nat.le_of_ble_eq_true rfl) dX7_isStepOf_2 (fun H locs hH hS => ?_)
  refine lv_if_eq (tgt := 26) hx hb dX7_isStepOf_5 (by decide) (fun _ => ?_) (fun q_ => absurd ((b01_eq0 _).mpr hxb) q_)
  refine lv_iconst (v := 0) hx hb dX7_isStepOf_26 (by decide) ?_
  exact x_zret hx hb hr hlocks hS dX7_isStepOf_27 rfl rfl hH

set_option maxHeartbeats 1000000 in
set_option maxRecDepth 100000 in
theorem c_X7_isStepOf_1 (l : Launch) (g : xG) (h : xS) (I : xI) (n : Nat) (q : Nat) (hq : q ≤ 3) (hz : I [20] 10 = nI q) (p : Nat) (hp : p < q) (k : Nat) (hk : k ≤ 8) (hs : I [24, 8] p = nI k) (m : Nat) (hm4 : m ≤ 4) (hm : I [20] 20 = nI m) (c : Nat) (hc : c < m) (hpo : I [24, 11] c = nI p) (y : Int32) : xM l yX7_isStepOf (xws yX7_isStepOf cX7_isStepOf 3 (some FieldType.boolean)) 4 77 g [.ref (ga g [20]), .int (nI c), .int y] (xR g (xD h) I (xFh h) n) (some (.int (b01 (sIn y 0 (nI k))))) (xR g (xD h) I (xFh h) n) 0 0 := by
  refine xM.of (by decide) (Nat.le_of_ble_eq_true rfl) ?_
  intro P_ e_ s m_ bl_ mt_ cd_ ls hx hb hr hown hlocks hml hnm hE hK hts hH hS hl
  have hl : lv_has ls 3 [(0, .ref (ga g [20])), (1, .int (nI c)), (2, .int y)] := hl
  refine lv_aload_n hx hb dX7_isStepOf_0 rfl (lv_at hl 0 rfl) ?_
  refine lv_iload_n hx hb dX7_isStepOf_1 rfl (lv_at hl 1 rfl) ?_
  refine x_V1 hx hb hml hown hE hS hl.1 cyX7_isCase tw1016 (c_X7_isCase l g h I n ((nI c)) m (by omega) hm) ⟨Nat.le_of_ble_eq_true rfl, Nat.le_of_ble_eq_true rfl⟩ ⟨Nat.le_of_ble_eq_true rfl, Nat.le_of_ble_eq_true rfl⟩ (x_recv hK hH (id := [20]) (by first | trivial | (simp only [xD]; omega) | (simp [xD]; done) | (simp [xD]; omega)) (ci := 7) rfl (by decide) rfl) hH rfl rfl (Nat.le_of_ble_eq_true rfl) dX7_isStepOf_2 (fun H locs hH hS => ?_)
  refine lv_if_eq (tgt := 26) hx hb dX7_isStepOf_5 (by decide) (fun q_ => absurd q_ (fun z_ => by rw [sIn_nI hc (by omega)] at z_; exact absurd z_ (by decide))) (fun _ => ?_)
  refine lv_aload_n hx hb dX7_isStepOf_8 rfl (lv_at hl 0 rfl) ?_
  refine lv_aload_n hx hb dX7_isStepOf_9 rfl (lv_at hl 0 rfl) ?_
  refine x_get (C := RX7) (T := TX7) (N := 24) (ci := 7) hx hb hts iu7 hown hK hH (id := [20]) (by first | trivial | (simp only [xD]; omega) | (simp [xD]; done) | (simp [xD]; omega)) rfl rfl (by decide) 11 (by decide) (hts _ tw850) (fun _ h9 => h9) rfl (v := .ref (ga g [24, 11])) rfl dX7_isStepOf_10 ?_
  refine lv_iload_n hx hb dX7_isStepOf_13 rfl (lv_at hl 1 rfl) ?_
  refine x_iald hx hb hK hH (id := [24, 11]) (by first | trivial | (simp only [xD]; omega) | (simp [xD]; done) | (simp [xD]; omega)) (L := 4) rfl rfl c rfl (by omega) (by decide) dX7_isStepOf_14 ?_
  rw [show (I [24, 11] c) = (nI p) from (hpo)]
  refine lv_iload_n hx hb dX7_isStepOf_15 rfl (lv_at hl 2 rfl) ?_
  refine x_V1 hx hb hml hown hE hS hl.1 cyX7_isStep tw936 (c_X7_isStep_1 l g h I n q hq hz p hp k hk hs y) ⟨Nat.le_of_ble_eq_true rfl, Nat.le_of_ble_eq_true rfl⟩ ⟨Nat.le_of_ble_eq_true rfl, Nat.le_of_ble_eq_true rfl⟩ (x_recv hK hH (id := [20]) (by first | trivial | (simp only [xD]; omega) | (simp [xD]; done) | (simp [xD]; omega)) (ci := 7) rfl (by decide) rfl) hH rfl rfl (Nat.le_of_ble_eq_true rfl) dX7_isStepOf_16 (fun H locs hH hS => ?_)
  refine lv_if_eq (tgt := 26) hx hb dX7_isStepOf_19 (by decide) (fun c_19 => ?_) (fun c_19 => ?_)
  · skip
    refine lv_iconst (v := 0) hx hb dX7_isStepOf_26 (by decide) ?_
    exact x_zret hx hb hr hlocks hS dX7_isStepOf_27 rfl (b01_f ((b01_eq0 _).mp c_19)) hH
  · skip
    refine lv_iconst (v := 1) hx hb dX7_isStepOf_22 (by decide) ?_
    refine lv_goto (tgt := 27) hx hb dX7_isStepOf_23 (by decide) ?_
    exact x_zret hx hb hr hlocks hS dX7_isStepOf_27 rfl (b01_t (b01_ne0 c_19)) hH

set_option maxHeartbeats 1000000 in
set_option maxRecDepth 100000 in
theorem c_X7_isCondition (l : Launch) (g : xG) (h : xS) (I : xI) (n : Nat) (q : Nat) (hq : q ≤ 3) (hz : I [20] 10 = nI q) (p : Nat) (hp : p < q) (k : Nat) (hk : k ≤ 8) (hs : I [24, 8] p = nI k) (so a b : Int32) : xM l yX7_isCondition (xws yX7_isCondition cX7_isCondition 5 (some FieldType.boolean)) 4 77 g [.ref (ga g [20]), .int (nI p), .int so, .int a, .int b] (xR g (xD h) I (xFh h) n) (some (.int (b01 (sCond k so a b)))) (xR g (xD h) I (xFh h) n) 0 0 := by
  refine xM.of (by decide) (Nat.le_of_ble_eq_true rfl) ?_
  intro P_ e_ s m_ bl_ mt_ cd_ ls hx hb hr hown hlocks hml hnm hE hK hts hH hS hl
  have hl : lv_has ls 5 [(0, .ref (ga g [20])), (1, .int (nI p)), (2, .int so), (3, .int a), (4, .int b)] := hl
  refine lv_iload_n hx hb dX7_isCondition_0 rfl (lv_at hl 2 rfl) ?_
  refine lv_bipush (v := 100) hx hb dX7_isCondition_1 (by decide) ?_
  refine lv_icmp_eq (tgt := 12) hx hb dX7_isCondition_3 (by decide) (fun c_3 => ?_) (fun c_3 => ?_)
  · skip
    refine lv_iload_n hx hb dX7_isCondition_12 rfl (lv_at hl 3 rfl) ?_
    refine lv_iconst (v := 0) hx hb dX7_isCondition_13 (by decide) ?_
    refine lv_iconst (v := 3) hx hb dX7_isCondition_14 (by decide) ?_
    refine x_S1 hx hb hml hown hE hS hl.1 cyX7_in tw933 (c_X7_in l g h I n a 0 3) ⟨Nat.le_of_ble_eq_true rfl, Nat.le_of_ble_eq_true rfl⟩ ⟨Nat.le_of_ble_eq_true rfl, Nat.le_of_ble_eq_true rfl⟩ hH rfl rfl (Nat.le_of_ble_eq_true rfl) dX7_isCondition_15 (fun H locs hH hS => ?_)
    refine lv_if_eq (tgt := 37) hx hb dX7_isCondition_18 (by decide) (fun c_18 => ?_) (fun c_18 => ?_)
    · skip
      refine lv_iconst (v := 0) hx hb dX7_isCondition_37 (by decide) ?_
      exact x_zret hx hb hr hlocks hS dX7_isCondition_38 rfl (b01_f (by rw [sCond, if_pos (Or.inl c_3), ← mIn_4, (b01_eq0 _).mp c_18]; rfl)) hH
    · skip
      refine lv_iload hx hb dX7_isCondition_21 (lv_at hl 4 rfl) ?_
      refine lv_bipush (v := (-99)) hx hb dX7_isCondition_23 (by decide) ?_
      refine lv_bipush (v := 99) hx hb dX7_isCondition_25 (by decide) ?_
      refine x_S1 hx hb hml hown hE hS hl.1 cyX7_in tw933 (c_X7_in l g h I n b ((-99)) 99) ⟨Nat.le_of_ble_eq_true rfl, Nat.le_of_ble_eq_true rfl⟩ ⟨Nat.le_of_ble_eq_true rfl, Nat.le_of_ble_eq_true rfl⟩ hH rfl rfl (Nat.le_of_ble_eq_true rfl) dX7_isCondition_27 (fun H locs hH hS => ?_)
      refine lv_if_eq (tgt := 37) hx hb dX7_isCondition_30 (by decide) (fun c_30 => ?_) (fun c_30 => ?_)
      · skip
        refine lv_iconst (v := 0) hx hb dX7_isCondition_37 (by decide) ?_
        exact x_zret hx hb hr hlocks hS dX7_isCondition_38 rfl (b01_f (by rw [sCond, if_pos (Or.inl c_3), ← mIn_v, (b01_eq0 _).mp c_30]; exact Bool.and_false _)) hH
      · skip
        refine lv_iconst (v := 1) hx hb dX7_isCondition_33 (by decide) ?_
        refine lv_goto (tgt := 38) hx hb dX7_isCondition_34 (by decide) ?_
        exact x_zret hx hb hr hlocks hS dX7_isCondition_38 rfl (b01_t (by rw [sCond, if_pos (Or.inl c_3), ← mIn_v, ← mIn_4, b01_ne0 c_18, b01_ne0 c_30]; rfl)) hH
  · skip
    refine lv_iload_n hx hb dX7_isCondition_6 rfl (lv_at hl 2 rfl) ?_
    refine lv_bipush (v := 108) hx hb dX7_isCondition_7 (by decide) ?_
    refine lv_icmp_ne (tgt := 39) hx hb dX7_isCondition_9 (by decide) (fun c_9 => ?_) (fun c_9 => ?_)
    · skip
      refine lv_iload_n hx hb dX7_isCondition_39 rfl (lv_at hl 2 rfl) ?_
      refine lv_bipush (v := 101) hx hb dX7_isCondition_40 (by decide) ?_
      refine lv_icmp_ne (tgt := 55) hx hb dX7_isCondition_42 (by decide) (fun c_42 => ?_) (fun c_42 => ?_)
      · skip
        refine lv_iload_n hx hb dX7_isCondition_55 rfl (lv_at hl 2 rfl) ?_
        refine lv_bipush (v := 99) hx hb dX7_isCondition_56 (by decide) ?_
        refine lv_icmp_ne (tgt := 70) hx hb dX7_isCondition_58 (by decide) (fun c_58 => ?_) (fun c_58 => ?_)
        · skip
          refine lv_iload_n hx hb dX7_isCondition_70 rfl (lv_at hl 2 rfl) ?_
          refine lv_bipush (v := 116) hx hb dX7_isCondition_71 (by decide) ?_
          refine lv_icmp_ne (tgt := 91) hx hb dX7_isCondition_73 (by decide) (fun c_73 => ?_) (fun c_73 => ?_)
          · skip
            refine lv_iconst (v := 0) hx hb dX7_isCondition_91 (by decide) ?_
            exact x_zret hx hb hr hlocks hS dX7_isCondition_92 rfl (b01_f (by rw [sCond, if_neg (fun z_ => z_.elim c_3 c_9), if_neg c_42, if_neg c_58]; rw [decide_eq_false c_73]; rfl)) hH
          · skip
            refine lv_iload_n hx hb dX7_isCondition_76 rfl (lv_at hl 3 rfl) ?_
            refine lv_iconst (v := 0) hx hb dX7_isCondition_77 (by decide) ?_
            refine lv_sipush (v := 999) hx hb dX7_isCondition_78 (by decide) ?_
            refine x_S1 hx hb hml hown hE hS hl.1 cyX7_in tw933 (c_X7_in l g h I n a 0 999) ⟨Nat.le_of_ble_eq_true rfl, Nat.le_of_ble_eq_true rfl⟩ ⟨Nat.le_of_ble_eq_true rfl, Nat.le_of_ble_eq_true rfl⟩ hH rfl rfl (Nat.le_of_ble_eq_true rfl) dX7_isCondition_81 (fun H locs hH hS => ?_)
            refine lv_if_eq (tgt := 91) hx hb dX7_isCondition_84 (by decide) (fun c_84 => ?_) (fun c_84 => ?_)
            · skip
              refine lv_iconst (v := 0) hx hb dX7_isCondition_91 (by decide) ?_
              exact x_zret hx hb hr hlocks hS dX7_isCondition_92 rfl (b01_f (by rw [sCond, if_neg (fun z_ => z_.elim c_3 c_9), if_neg c_42, if_neg c_58]; rw [← mIn_d, (b01_eq0 _).mp c_84]; exact Bool.and_false _)) hH
            · skip
              refine lv_iconst (v := 1) hx hb dX7_isCondition_87 (by decide) ?_
              refine lv_goto (tgt := 92) hx hb dX7_isCondition_88 (by decide) ?_
              exact x_zret hx hb hr hlocks hS dX7_isCondition_92 rfl (b01_t (by rw [sCond, if_neg (fun z_ => z_.elim c_3 c_9), if_neg c_42, if_neg c_58]; rw [← mIn_d, b01_ne0 c_84, decide_eq_true c_73]; rfl)) hH
        · skip
          refine lv_aload_n hx hb dX7_isCondition_61 rfl (lv_at hl 0 rfl) ?_
          refine lv_iload_n hx hb dX7_isCondition_62 rfl (lv_at hl 1 rfl) ?_
          refine lv_iload_n hx hb dX7_isCondition_63 rfl (lv_at hl 3 rfl) ?_
          refine x_V1 hx hb hml hown hE hS hl.1 cyX7_isStep tw936 (c_X7_isStep_1 l g h I n q hq hz p hp k hk hs a) ⟨Nat.le_of_ble_eq_true rfl, Nat.le_of_ble_eq_true rfl⟩ ⟨Nat.le_of_ble_eq_true rfl, Nat.le_of_ble_eq_true rfl⟩ (x_recv hK hH (id := [20]) (by first | trivial | (simp only [xD]; omega) | (simp [xD]; done) | (simp [xD]; omega)) (ci := 7) rfl (by decide) rfl) hH rfl rfl (Nat.le_of_ble_eq_true rfl) dX7_isCondition_64 (fun H locs hH hS => ?_)
          refine lv_goto (tgt := 92) hx hb dX7_isCondition_67 (by decide) ?_
          exact x_zret hx hb hr hlocks hS dX7_isCondition_92 (b01_nar _) (by rw [sCond, if_neg (fun z_ => z_.elim c_3 c_9), if_neg c_42, if_pos c_58]) hH
      · skip
        refine lv_iload_n hx hb dX7_isCondition_45 rfl (lv_at hl 3 rfl) ?_
        refine lv_iconst (v := 0) hx hb dX7_isCondition_46 (by decide) ?_
        refine lv_bipush (v := 9) hx hb dX7_isCondition_47 (by decide) ?_
        refine x_S1 hx hb hml hown hE hS hl.1 cyX7_in tw933 (c_X7_in l g h I n a 0 9) ⟨Nat.le_of_ble_eq_true rfl, Nat.le_of_ble_eq_true rfl⟩ ⟨Nat.le_of_ble_eq_true rfl, Nat.le_of_ble_eq_true rfl⟩ hH rfl rfl (Nat.le_of_ble_eq_true rfl) dX7_isCondition_49 (fun H locs hH hS => ?_)
        refine lv_goto (tgt := 92) hx hb dX7_isCondition_52 (by decide) ?_
        exact x_zret hx hb hr hlocks hS dX7_isCondition_92 (b01_nar _) (by rw [sCond, if_neg (fun z_ => z_.elim c_3 c_9), if_pos c_42, mIn_10]) hH
    · skip
      refine lv_iload_n hx hb dX7_isCondition_12 rfl (lv_at hl 3 rfl) ?_
      refine lv_iconst (v := 0) hx hb dX7_isCondition_13 (by decide) ?_
      refine lv_iconst (v := 3) hx hb dX7_isCondition_14 (by decide) ?_
      refine x_S1 hx hb hml hown hE hS hl.1 cyX7_in tw933 (c_X7_in l g h I n a 0 3) ⟨Nat.le_of_ble_eq_true rfl, Nat.le_of_ble_eq_true rfl⟩ ⟨Nat.le_of_ble_eq_true rfl, Nat.le_of_ble_eq_true rfl⟩ hH rfl rfl (Nat.le_of_ble_eq_true rfl) dX7_isCondition_15 (fun H locs hH hS => ?_)
      refine lv_if_eq (tgt := 37) hx hb dX7_isCondition_18 (by decide) (fun c_18 => ?_) (fun c_18 => ?_)
      · skip
        refine lv_iconst (v := 0) hx hb dX7_isCondition_37 (by decide) ?_
        exact x_zret hx hb hr hlocks hS dX7_isCondition_38 rfl (b01_f (by rw [sCond, if_pos (Or.inr c_9), ← mIn_4, (b01_eq0 _).mp c_18]; rfl)) hH
      · skip
        refine lv_iload hx hb dX7_isCondition_21 (lv_at hl 4 rfl) ?_
        refine lv_bipush (v := (-99)) hx hb dX7_isCondition_23 (by decide) ?_
        refine lv_bipush (v := 99) hx hb dX7_isCondition_25 (by decide) ?_
        refine x_S1 hx hb hml hown hE hS hl.1 cyX7_in tw933 (c_X7_in l g h I n b ((-99)) 99) ⟨Nat.le_of_ble_eq_true rfl, Nat.le_of_ble_eq_true rfl⟩ ⟨Nat.le_of_ble_eq_true rfl, Nat.le_of_ble_eq_true rfl⟩ hH rfl rfl (Nat.le_of_ble_eq_true rfl) dX7_isCondition_27 (fun H locs hH hS => ?_)
        refine lv_if_eq (tgt := 37) hx hb dX7_isCondition_30 (by decide) (fun c_30 => ?_) (fun c_30 => ?_)
        · skip
          refine lv_iconst (v := 0) hx hb dX7_isCondition_37 (by decide) ?_
          exact x_zret hx hb hr hlocks hS dX7_isCondition_38 rfl (b01_f (by rw [sCond, if_pos (Or.inr c_9), ← mIn_v, (b01_eq0 _).mp c_30]; exact Bool.and_false _)) hH
        · skip
          refine lv_iconst (v := 1) hx hb dX7_isCondition_33 (by decide) ?_
          refine lv_goto (tgt := 38) hx hb dX7_isCondition_34 (by decide) ?_
          exact x_zret hx hb hr hlocks hS dX7_isCondition_38 rfl (b01_t (by rw [sCond, if_pos (Or.inr c_9), ← mIn_v, ← mIn_4, b01_ne0 c_18, b01_ne0 c_30]; rfl)) hH
