/-! CONTRACTS: plans, steps, conditions and cases are made -/
/-- the shape behind a new plan, a new step of the plan p, one more condition, a new case of the plan p -/
def hPn (h : xS) : xS := (sNp h + 1, sNc h, (fun q => if q = sNp h then 0 else sSz h q), sCn h, sPl h, sOw h)
def hSt (h : xS) (p : Nat) : xS := (sNp h, sNc h, (fun q => if q = p then sSz h p + 1 else sSz h q), (fun q j w => if q = p ∧ j = sSz h p then 0 else sCn h q j w), sPl h, sOw h)
def hCo (h : xS) (p j w : Nat) : xS := (sNp h, sNc h, sSz h, (fun q i v => if q = p ∧ i = j ∧ v = w then sCn h q i v + 1 else sCn h q i v), sPl h, sOw h)
def hBe (h : xS) (p : Nat) : xS := (sNp h, sNc h + 1, sSz h, sCn h, (fun c => if c = sNc h then p else sPl h c), sOw h)
theorem upR_ap {α : Type} (f : List Nat → Nat → α) (i : List Nat) (r : Nat → α) (j : List Nat) (q : Nat) : upR f i r j q = if j = i then r q else f j q := by unfold upR; split <;> rfl
set_option maxHeartbeats 4000000 in
theorem xD_Pn (h : xS)  (h3 : sNp h < 3) {i : List Nat} (hi : xD (hPn h) i) : i = [6, sNp h] ∨ i = [5, sNp h] ∨ xD h i := by
  unfold xD at hi ⊢
  split at hi <;> (first | (simp [hPn, hSt, hCo, hBe] at hi ⊢; done) | (simp [hPn, hSt, hCo, hBe] at hi ⊢; omega) | (simp [hPn, hSt, hCo, hBe] at hi ⊢; grind))
set_option maxHeartbeats 4000000 in
theorem xF_Pn (h : xS)  (h3 : sNp h < 3) (i : List Nat) (hi : xD (hPn h) i) : xFh (hPn h) i = (up (upR (upR (xFh h) [5, (sNp h)] (q1 1 [6, (sNp h)])) [6, (sNp h)] q0) [1] (sNp h) (some [5, sNp h])) i := by
  obtain ⟨np, nc, sz, cn, pl, ow⟩ := h
  funext q
  unfold xD at hi
  split at hi <;> simp only [hPn, hSt, hCo, hBe, sNp, sNc, sSz, sCn, sPl, sOw] at * <;> (first | (simp [hPn, hSt, hCo, hBe, up, upR_ap, xFh, q0, q1, qS, qK]; done) | (simp [up, upR_ap, xFh, q0, q1, qS, qK]; grind) | (rcases q with _ | _ | _ | _ | _ | _ | q <;> (first | (simp [up, upR_ap, xFh, q0, q1, qS, qK]; done) | (simp [up, upR_ap, xFh, q0, q1, qS, qK]; grind))))
set_option maxHeartbeats 4000000 in
theorem xD_St (h : xS) (p : Nat) (hp : p < sNp h) (h8 : sSz h p < 8) {i : List Nat} (hi : xD (hSt h p) i) : i = [9, p, sSz h p, 1] ∨ i = [8, p, sSz h p, 1] ∨ i = [9, p, sSz h p, 0] ∨ i = [8, p, sSz h p, 0] ∨ i = [7, p, sSz h p] ∨ xD h i := by
  unfold xD at hi ⊢
  split at hi <;> (first | (simp [hPn, hSt, hCo, hBe] at hi ⊢; done) | (simp [hPn, hSt, hCo, hBe] at hi ⊢; omega) | (simp [hPn, hSt, hCo, hBe] at hi ⊢; grind))
set_option maxHeartbeats 4000000 in
theorem xF_St (h : xS) (p : Nat) (hp : p < sNp h) (h8 : sSz h p < 8) (i : List Nat) (hi : xD (hSt h p) i) : xFh (hSt h p) i = (up (upR (upR (upR (upR (upR (xFh h) [7, p, sSz h p] (qS p (sSz h p))) [8, p, sSz h p, 0] (q1 0 [9, p, sSz h p, 0])) [9, p, sSz h p, 0] q0) [8, p, sSz h p, 1] (q1 0 [9, p, sSz h p, 1])) [9, p, sSz h p, 1] q0) [6, p] (sSz h p) (some [7, p, sSz h p])) i := by
  obtain ⟨np, nc, sz, cn, pl, ow⟩ := h
  funext q
  unfold xD at hi
  split at hi <;> simp only [hPn, hSt, hCo, hBe, sNp, sNc, sSz, sCn, sPl, sOw] at * <;> (first | (simp [hPn, hSt, hCo, hBe, up, upR_ap, xFh, q0, q1, qS, qK]; done) | (simp [up, upR_ap, xFh, q0, q1, qS, qK]; grind) | (rcases q with _ | _ | _ | _ | _ | _ | q <;> (first | (simp [up, upR_ap, xFh, q0, q1, qS, qK]; done) | (simp [up, upR_ap, xFh, q0, q1, qS, qK]; grind))))
set_option maxHeartbeats 4000000 in
theorem xD_Co (h : xS) (p j w : Nat) (hp : p < sNp h) (hj : j < sSz h p) (hw : w < 2) (h3 : sCn h p j w < 3) {i : List Nat} (hi : xD (hCo h p j w) i) : i = [10, p, j, w, sCn h p j w] ∨ xD h i := by
  unfold xD at hi ⊢
  split at hi <;> (first | (simp [hPn, hSt, hCo, hBe] at hi ⊢; done) | (simp [hPn, hSt, hCo, hBe] at hi ⊢; omega) | (simp [hPn, hSt, hCo, hBe] at hi ⊢; grind))
set_option maxHeartbeats 4000000 in
theorem xF_Co (h : xS) (p j w : Nat) (hp : p < sNp h) (hj : j < sSz h p) (hw : w < 2) (h3 : sCn h p j w < 3) (i : List Nat) (hi : xD (hCo h p j w) i) : xFh (hCo h p j w) i = (up (upR (xFh h) [10, p, j, w, sCn h p j w] (fun _ => none)) [9, p, j, w] (sCn h p j w) (some [10, p, j, w, sCn h p j w])) i := by
  obtain ⟨np, nc, sz, cn, pl, ow⟩ := h
  funext q
  unfold xD at hi
  split at hi <;> simp only [hPn, hSt, hCo, hBe, sNp, sNc, sSz, sCn, sPl, sOw] at * <;> (first | (simp [hPn, hSt, hCo, hBe, up, upR_ap, xFh, q0, q1, qS, qK]; done) | (simp [up, upR_ap, xFh, q0, q1, qS, qK]; grind) | (rcases q with _ | _ | _ | _ | _ | _ | q <;> (first | (simp [up, upR_ap, xFh, q0, q1, qS, qK]; done) | (simp [up, upR_ap, xFh, q0, q1, qS, qK]; grind))))
set_option maxHeartbeats 4000000 in
theorem xD_Be (h : xS) (p : Nat) (hp : p < sNp h) (h4 : sNc h < 4) {i : List Nat} (hi : xD (hBe h p) i) : i = [11, sNc h, 5] ∨ i = [11, sNc h, 4] ∨ i = [11, sNc h, 3] ∨ i = [11, sNc h, 2] ∨ i = [11, sNc h, 1] ∨ i = [11, sNc h, 0] ∨ xD h i := by
  unfold xD at hi ⊢
  split at hi <;> (first | (simp [hPn, hSt, hCo, hBe] at hi ⊢; done) | (simp [hPn, hSt, hCo, hBe] at hi ⊢; omega) | (simp [hPn, hSt, hCo, hBe] at hi ⊢; grind))
set_option maxHeartbeats 4000000 in
theorem xF_Be (h : xS) (p : Nat) (hp : p < sNp h) (h4 : sNc h < 4) (i : List Nat) (hi : xD (hBe h p) i) : xFh (hBe h p) i = (up (upR (upR (upR (upR (upR (upR (xFh h) [11, sNc h, 0] (qK (sNc h) [5, p])) [11, sNc h, 1] q0) [11, sNc h, 2] q0) [11, sNc h, 3] q0) [11, sNc h, 4] q0) [11, sNc h, 5] q0) [2] (sNc h) (some [11, sNc h, 0])) i := by
  obtain ⟨np, nc, sz, cn, pl, ow⟩ := h
  funext q
  unfold xD at hi
  split at hi <;> simp only [hPn, hSt, hCo, hBe, sNp, sNc, sSz, sCn, sPl, sOw] at * <;> (first | (simp [hPn, hSt, hCo, hBe, up, upR_ap, xFh, q0, q1, qS, qK]; done) | (simp [up, upR_ap, xFh, q0, q1, qS, qK]; grind) | (rcases q with _ | _ | _ | _ | _ | _ | q <;> (first | (simp [up, upR_ap, xFh, q0, q1, qS, qK]; done) | (simp [up, upR_ap, xFh, q0, q1, qS, qK]; grind))))
set_option maxHeartbeats 1000000 in
set_option maxRecDepth 100000 in
theorem c_X2_append (l : Launch) (g : xG) (dm : List Nat → Prop) (I : xI) (F : xF) (n : Nat) (p j w k : Nat) (hd8 : dm [8, p, j, w]) (hd9 : dm [9, p, j, w]) (hdc : dm [10, p, j, w, k]) (hF : F [8, p, j, w] 0 = some [9, p, j, w]) (hz : I [8, p, j, w] 1 = nI k) (hk : k < 3) : xM l yX2_append (xws yX2_append cX2_append 2 (some FieldType.int)) 1 12 g [.ref (ga g [8, p, j, w]), .ref (ga g [10, p, j, w, k])] (xR g dm I F n) (some (.int (nI (k + 1)))) (xR g dm (up I [8, p, j, w] 1 (nI (k + 1))) (up F [9, p, j, w] k (some [10, p, j, w, k])) n) 0 0 := by
  refine xM.of (by decide) (Nat.le_of_ble_eq_true rfl) ?_
  intro P_ e_ s m_ bl_ mt_ cd_ ls hx hb hr hown hlocks hml hnm hE hK hts hH hS hl
  have hl : lv_has ls 2 [(0, .ref (ga g [8, p, j, w])), (1, .ref (ga g [10, p, j, w, k]))] := hl
  refine lv_aload_n hx hb dX2_append_0 rfl (lv_at hl 0 rfl) ?_
  refine x_get (C := RX2) (T := TX2) (N := 2) (ci := 2) hx hb hts iu2 hown hK hH (id := [8, p, j, w]) hd8 rfl rfl (by decide) 1 (by decide) (hts _ tw316) (fun _ h9 => h9) rfl (v := .int (nI k)) (congrArg Value.int hz) dX2_append_1 ?_
  refine lv_if_lt (tgt := 35) hx hb dX2_append_4 (by decide) (fun q_ => absurd q_ (fun z_ => absurd ((nI_ltI (a := k) (b := 0) (by omega) (by omega)).mp z_) (by omega))) (fun _ => ?_)
  refine lv_aload_n hx hb dX2_append_7 rfl (lv_at hl 0 rfl) ?_
  refine x_get (C := RX2) (T := TX2) (N := 2) (ci := 2) hx hb hts iu2 hown hK hH (id := [8, p, j, w]) hd8 rfl rfl (by decide) 1 (by decide) (hts _ tw316) (fun _ h9 => h9) rfl (v := .int (nI k)) (congrArg Value.int hz) dX2_append_8 ?_
  refine lv_iconst (v := 3) hx hb dX2_append_11 (by decide) ?_
  refine lv_icmp_ge (tgt := 35) hx hb dX2_append_12 (by decide) (fun q_ => absurd q_ (fun z_ => absurd ((nI_leI (a := 3) (b := k) (by omega) (by omega)).mp z_) (by omega))) (fun _ => ?_)
  refine lv_aload_n hx hb dX2_append_15 rfl (lv_at hl 0 rfl) ?_
  refine x_get (C := RX2) (T := TX2) (N := 2) (ci := 2) hx hb hts iu2 hown hK hH (id := [8, p, j, w]) hd8 rfl rfl (by decide) 0 (by decide) (hts _ tw315) (fun _ h9 => h9) rfl (v := .ref (ga g [9, p, j, w])) (by show rq (ga g) (F [8, p, j, w] 0) = _; rw [hF]; rfl) dX2_append_16 ?_
  refine lv_aload_n hx hb dX2_append_19 rfl (lv_at hl 0 rfl) ?_
  refine x_get (C := RX2) (T := TX2) (N := 2) (ci := 2) hx hb hts iu2 hown hK hH (id := [8, p, j, w]) hd8 rfl rfl (by decide) 1 (by decide) (hts _ tw316) (fun _ h9 => h9) rfl (v := .int (nI k)) (congrArg Value.int hz) dX2_append_20 ?_
  refine lv_aload_n hx hb dX2_append_23 rfl (lv_at hl 1 rfl) ?_
  obtain ⟨F1_, hF1_⟩ : ∃ z, z = up F [9, p, j, w] k (some [10, p, j, w, k]) := ⟨_, rfl⟩
  refine x_aast hx hb hK hH hS (id := [9, p, j, w]) hd9 6 (L := 3) rfl (by decide) (id2 := [10, p, j, w, k]) hdc (ci := 1) rfl (by decide) rfl rfl k rfl (by omega) (by decide) hF1_.symm dX2_append_24 (fun H locs hH hS => ?_)
  refine lv_aload_n hx hb dX2_append_25 rfl (lv_at hl 0 rfl) ?_
  refine lv_dup hx hb dX2_append_26 rfl ?_
  refine x_get (C := RX2) (T := TX2) (N := 2) (ci := 2) hx hb hts iu2 hown hK hH (id := [8, p, j, w]) hd8 rfl rfl (by decide) 1 (by decide) (hts _ tw316) (fun _ h9 => h9) rfl (v := .int (nI k)) (congrArg Value.int hz) dX2_append_27 ?_
  refine lv_iconst (v := 1) hx hb dX2_append_30 (by decide) ?_
  refine lv_iadd hx hb dX2_append_31 ?_
  rw [show ((nI k) + 1) = (nI (k + 1)) from (nI_1 k)]
  obtain ⟨I2_, hI2_⟩ : ∃ z, z = up I [8, p, j, w] 1 (nI (k + 1)) := ⟨_, rfl⟩
  refine x_put (C := RX2) (T := TX2) (N := 2) (ci := 2) hx hb hts iu2 tyX2 tyX2_ok nmX2 hown hK hH hS (id := [8, p, j, w]) hd8 rfl rfl (by decide) 1 (by decide) (hts _ tw316) (fun _ h9 => h9) (Or.inl rfl) (ty := .int) (v := .int (nI (k + 1))) (by decide +kernel) rfl rfl (I' := I2_) (F' := F1_) (fun i hi => by rw [hI2_]; exact up_id hi) (fun _ _ => rfl) (fun j9 => by rw [hI2_, up_row]; exact xv_upd (ci := 2) (k := 1) rfl j9) dX2_append_32 (fun H locs hH hS => ?_)
  refine lv_aload_n hx hb dX2_append_35 rfl (lv_at hl 0 rfl) ?_
  refine x_get (C := RX2) (T := TX2) (N := 2) (ci := 2) hx hb hts iu2 hown hK hH (id := [8, p, j, w]) hd8 rfl rfl (by decide) 1 (by decide) (hts _ tw316) (fun _ h9 => h9) rfl (v := .int (nI (k + 1))) (congrArg Value.int (by rw [hI2_]; exact up_at)) dX2_append_36 ?_
  exact x_iret hx hb hr hlocks hS dX2_append_39 rfl (by rw [hI2_, hF1_] at hH; exact hH)

set_option maxHeartbeats 1000000 in
set_option maxRecDepth 100000 in
theorem c_X4_append (l : Launch) (g : xG) (dm : List Nat → Prop) (I : xI) (F : xF) (n : Nat) (p j : Nat) (hd5 : dm [5, p]) (hd6 : dm [6, p]) (hd7 : dm [7, p, j]) (hF : F [5, p] 1 = some [6, p]) (hz : I [5, p] 2 = nI j) (hj : j < 8) : xM l yX4_append (xws yX4_append cX4_append 3 (some FieldType.int)) 1 12 g [.ref (ga g [5, p]), .ref (ga g [7, p, j])] (xR g dm I F n) (some (.int (nI j))) (xR g dm (up I [5, p] 2 (nI (j + 1))) (up F [6, p] j (some [7, p, j])) n) 0 0 := by
  refine xM.of (by decide) (Nat.le_of_ble_eq_true rfl) ?_
  intro P_ e_ s m_ bl_ mt_ cd_ ls hx hb hr hown hlocks hml hnm hE hK hts hH hS hl
  have hl : lv_has ls 3 [(0, .ref (ga g [5, p])), (1, .ref (ga g [7, p, j]))] := hl
  refine lv_aload_n hx hb dX4_append_0 rfl (lv_at hl 0 rfl) ?_
  refine x_get (C := RX4) (T := TX4) (N := 4) (ci := 4) hx hb hts iu4 hown hK hH (id := [5, p]) hd5 rfl rfl (by decide) 2 (by decide) (hts _ tw72) (fun _ h9 => h9) rfl (v := .int (nI j)) (congrArg Value.int hz) dX4_append_1 ?_
  refine lv_istore_n (lv' := [(2, .int (nI j)), (0, .ref (ga g [5, p])), (1, .ref (ga g [7, p, j]))]) hx hb dX4_append_4 rfl hl (by decide) rfl (fun ls hl => ?_)
  refine lv_iload_n hx hb dX4_append_5 rfl (lv_at hl 0 rfl) ?_
  refine lv_if_lt (tgt := 29) hx hb dX4_append_6 (by decide) (fun q_ => absurd q_ (fun z_ => absurd ((nI_ltI (a := j) (b := 0) (by omega) (by omega)).mp z_) (by omega))) (fun _ => ?_)
  refine lv_iload_n hx hb dX4_append_9 rfl (lv_at hl 0 rfl) ?_
  refine lv_bipush (v := 8) hx hb dX4_append_10 (by decide) ?_
  refine lv_icmp_ge (tgt := 29) hx hb dX4_append_12 (by decide) (fun q_ => absurd q_ (fun z_ => absurd ((nI_leI (a := 8) (b := j) (by omega) (by omega)).mp z_) (by omega))) (fun _ => ?_)
  refine lv_aload_n hx hb dX4_append_15 rfl (lv_at hl 1 rfl) ?_
  refine x_get (C := RX4) (T := TX4) (N := 4) (ci := 4) hx hb hts iu4 hown hK hH (id := [5, p]) hd5 rfl rfl (by decide) 1 (by decide) (hts _ tw71) (fun _ h9 => h9) rfl (v := .ref (ga g [6, p])) (by show rq (ga g) (F [5, p] 1) = _; rw [hF]; rfl) dX4_append_16 ?_
  refine lv_iload_n hx hb dX4_append_19 rfl (lv_at hl 0 rfl) ?_
  refine lv_aload_n hx hb dX4_append_20 rfl (lv_at hl 2 rfl) ?_
  obtain ⟨F1_, hF1_⟩ : ∃ z, z = up F [6, p] j (some [7, p, j]) := ⟨_, rfl⟩
  refine x_aast hx hb hK hH hS (id := [6, p]) hd6 5 (L := 8) rfl (by decide) (id2 := [7, p, j]) hd7 (ci := 5) rfl (by decide) rfl rfl j rfl (by omega) (by decide) hF1_.symm dX4_append_21 (fun H locs hH hS => ?_)
  refine lv_aload_n hx hb dX4_append_22 rfl (lv_at hl 1 rfl) ?_
  refine lv_iload_n hx hb dX4_append_23 rfl (lv_at hl 0 rfl) ?_
  refine lv_iconst (v := 1) hx hb dX4_append_24 (by decide) ?_
  refine lv_iadd hx hb dX4_append_25 ?_
  rw [show ((nI j) + 1) = (nI (j + 1)) from (nI_1 j)]
  obtain ⟨I2_, hI2_⟩ : ∃ z, z = up I [5, p] 2 (nI (j + 1)) := ⟨_, rfl⟩
  refine x_put (C := RX4) (T := TX4) (N := 4) (ci := 4) hx hb hts iu4 tyX4 tyX4_ok nmX4 hown hK hH hS (id := [5, p]) hd5 rfl rfl (by decide) 2 (by decide) (hts _ tw72) (fun _ h9 => h9) (Or.inl rfl) (ty := .int) (v := .int (nI (j + 1))) (by decide +kernel) rfl rfl (I' := I2_) (F' := F1_) (fun i hi => by rw [hI2_]; exact up_id hi) (fun _ _ => rfl) (fun j9 => by rw [hI2_, up_row]; exact xv_upd (ci := 4) (k := 2) rfl j9) dX4_append_26 (fun H locs hH hS => ?_)
  refine lv_iload_n hx hb dX4_append_29 rfl (lv_at hl 0 rfl) ?_
  exact x_iret hx hb hr hlocks hS dX4_append_30 rfl (by rw [hI2_, hF1_] at hH; exact hH)

theorem upR_upR {α : Type} (f : List Nat → Nat → α) (i : List Nat) (r t : Nat → α) : upR (upR f i r) i t = upR f i t := by
  funext j q; unfold upR; split <;> rfl
/-- the numbers behind a new plan, a new step, a new condition, a new case -/
def iPn (h : xS) (I : xI) : xI := up (upR (upR I [5, sNp h] (rP (nI (sNp h)))) [6, sNp h] r0) [0] 1 (nI (sNp h + 1))
def iSt (h : xS) (I : xI) (p : Nat) (kd pa : Int32) : xI := up (upR (upR (upR (upR (upR I [7, p, sSz h p] (rS kd pa)) [8, p, sSz h p, 0] r0) [9, p, sSz h p, 0] r0) [8, p, sSz h p, 1] r0) [9, p, sSz h p, 1] r0) [5, p] 2 (nI (sSz h p + 1))
def iCo (h : xS) (I : xI) (p j w : Nat) (so a b : Int32) : xI := up (upR I [10, p, j, w, sCn h p j w] (rC so a b)) [8, p, j, w] 1 (nI (sCn h p j w + 1))
def iBe (h : xS) (I : xI) (p : Nat) : xI := up (up (upR (upR (upR (upR (upR (upR I [11, sNc h, 0] rK) [11, sNc h, 1] r0) [11, sNc h, 2] r0) [11, sNc h, 3] r0) [11, sNc h, 4] r0) [11, sNc h, 5] r0) [0] 3 (nI (sNc h + 1))) [5, p] 3 1
set_option maxHeartbeats 1000000 in
set_option maxRecDepth 100000 in
theorem c_X6_addPlan (l : Launch) (g : xG) (h : xS) (I : xI) (n : Nat) (hW : xWs0 h I) (h3 : sNp h < 3) (ha0 : ga g [5, sNp h] = n) (ha1 : ga g [6, sNp h] = n + 1) : xM l yX6_addPlan (xws yX6_addPlan cX6_addPlan 2 (some FieldType.int)) 2 33 g [.ref (ga g [0])] (xR g (xD h) I (xFh h) n) (some (.int (nI (sNp h)))) (xR g (xD (hPn h)) (iPn h I) (xFh (hPn h)) (n + 1 + 1)) 2 12 := by
  refine xM.of (by decide) (Nat.le_of_ble_eq_true rfl) ?_
  intro P_ e_ s m_ bl_ mt_ cd_ ls hx hb hr hown hlocks hml hnm hE hK hts hH hS hl
  have hl : lv_has ls 2 [(0, .ref (ga g [0]))] := hl
  have hz1 := hW.2.1
  refine lv_aload_n hx hb dX6_addPlan_0 rfl (lv_at hl 0 rfl) ?_
  refine x_get (C := RX6) (T := TX6) (N := 6) (ci := 6) hx hb hts iu6 hown hK hH (id := [0]) (by first | trivial | (simp only [xD]; omega) | (simp [xD]; done) | (simp [xD]; omega)) rfl rfl (by decide) 1 (by decide) (hts _ tw132) (fun _ h9 => h9) rfl (v := .int (nI (sNp h))) (congrArg Value.int hz1) dX6_addPlan_1 ?_
  refine lv_if_lt (tgt := 15) hx hb dX6_addPlan_4 (by decide) (fun q_ => absurd q_ (fun z_ => absurd ((nI_ltI (a := (sNp h)) (b := 0) (by omega) (by omega)).mp z_) (by omega))) (fun _ => ?_)
  refine lv_aload_n hx hb dX6_addPlan_7 rfl (lv_at hl 0 rfl) ?_
  refine x_get (C := RX6) (T := TX6) (N := 6) (ci := 6) hx hb hts iu6 hown hK hH (id := [0]) (by first | trivial | (simp only [xD]; omega) | (simp [xD]; done) | (simp [xD]; omega)) rfl rfl (by decide) 1 (by decide) (hts _ tw132) (fun _ h9 => h9) rfl (v := .int (nI (sNp h))) (congrArg Value.int hz1) dX6_addPlan_8 ?_
  refine lv_iconst (v := 3) hx hb dX6_addPlan_11 (by decide) ?_
  refine lv_icmp_lt (tgt := 25) hx hb dX6_addPlan_12 (by decide) (fun _ => ?_) (fun q_ => absurd ((nI_ltI (a := (sNp h)) (b := 3) (by omega) (by omega)).mpr (by omega)) q_)
  refine lv_aload_n hx hb dX6_addPlan_25 rfl (lv_at hl 0 rfl) ?_
  refine x_get (C := RX6) (T := TX6) (N := 6) (ci := 6) hx hb hts iu6 hown hK hH (id := [0]) (by first | trivial | (simp only [xD]; omega) | (simp [xD]; done) | (simp [xD]; omega)) rfl rfl (by decide) 1 (by decide) (hts _ tw132) (fun _ h9 => h9) rfl (v := .int (nI (sNp h))) (congrArg Value.int hz1) dX6_addPlan_26 ?_
  refine lv_istore_n (lv' := [(1, .int (nI (sNp h))), (0, .ref (ga g [0]))]) hx hb dX6_addPlan_29 rfl hl (by decide) rfl (fun ls hl => ?_)
  refine lv_aload_n hx hb dX6_addPlan_30 rfl (lv_at hl 1 rfl) ?_
  refine x_get (C := RX6) (T := TX6) (N := 6) (ci := 6) hx hb hts iu6 hown hK hH (id := [0]) (by first | trivial | (simp only [xD]; omega) | (simp [xD]; done) | (simp [xD]; omega)) rfl rfl (by decide) 0 (by decide) (hts _ tw131) (fun _ h9 => h9) rfl (v := .ref (ga g [1])) rfl dX6_addPlan_31 ?_
  refine lv_iload_n hx hb dX6_addPlan_34 rfl (lv_at hl 0 rfl) ?_
  refine x_new (C := RX4) (T := TX4) (N := 4) (ci := 4) hx hb hts iu4 tyX4 tyX4_ok hown (hts _ tw29) (hts _ tw62) (hts _ tw4) hK hH hS [5, sNp h] (by first | (simp [xD]; done) | (simp [xD]; omega)) (by omega) rfl (by decide) rfl (df4 _) (Nat.le_of_ble_eq_true rfl) (Nat.le_of_ble_eq_true rfl) dX6_addPlan_35 (fun H hH hS => ?_)
  obtain ⟨I1_, hI1_⟩ : ∃ z, z = upR I [5, sNp h] (fun _ => (0 : Int32)) := ⟨_, rfl⟩
  obtain ⟨F1_, hF1_⟩ : ∃ z, z = upR (xFh h) [5, sNp h] (fun _ => (none : Option (List Nat))) := ⟨_, rfl⟩
  rw [← hI1_, ← hF1_] at hH
  refine lv_dup hx hb dX6_addPlan_38 rfl ?_
  refine lv_iload_n hx hb dX6_addPlan_39 rfl (lv_at hl 0 rfl) ?_
  refine x_I0 hx hb hml hown hE hS hl.1 cyX4_init tw63 (c_X4_init l g (fun i => i = [5, sNp h] ∨ (xD h) i) I1_ F1_ ((n + 1)) (sNp h) (nI (sNp h)) (Or.inl rfl) (by first | (rw [hI1_]; simp [upR]) | simp [upR]) (by first | (rw [hF1_]; simp [upR, up]) | simp [upR]) (by first | (simp [xD]; done) | (simp [xD]; omega)) (by omega)) ⟨Nat.le_of_ble_eq_true rfl, Nat.le_of_ble_eq_true rfl⟩ ⟨Nat.le_of_ble_eq_true rfl, Nat.le_of_ble_eq_true rfl⟩ hH rfl rfl (Nat.le_of_ble_eq_true rfl) dX6_addPlan_40 (fun H locs hH hS => ?_)
  obtain ⟨I2_, hI2_⟩ : ∃ z, z = (upR (upR I1_ [5, sNp h] (rP (nI (sNp h)))) [6, sNp h] r0) := ⟨_, rfl⟩
  obtain ⟨F2_, hF2_⟩ : ∃ z, z = (upR (upR F1_ [5, sNp h] (q1 1 [6, sNp h])) [6, sNp h] q0) := ⟨_, rfl⟩
  rw [← hI2_, ← hF2_] at hH
  obtain ⟨F3_, hF3_⟩ : ∃ z, z = up F2_ [1] ((sNp h)) (some [5, sNp h]) := ⟨_, rfl⟩
  refine x_aast hx hb hK hH hS (id := [1]) (Or.inr (Or.inr ((show xD h [1] from by first | trivial | (simp only [xD]; omega) | (simp [xD]; done))))) 3 (L := 3) rfl (by decide) (id2 := [5, sNp h]) (Or.inr (Or.inl rfl)) (ci := 4) rfl (by decide) rfl rfl ((sNp h)) rfl (by omega) (by decide) hF3_.symm dX6_addPlan_43 (fun H locs hH hS => ?_)
  refine lv_aload_n hx hb dX6_addPlan_44 rfl (lv_at hl 1 rfl) ?_
  refine lv_iload_n hx hb dX6_addPlan_45 rfl (lv_at hl 0 rfl) ?_
  refine lv_iconst (v := 1) hx hb dX6_addPlan_46 (by decide) ?_
  refine lv_iadd hx hb dX6_addPlan_47 ?_
  rw [show ((nI (sNp h)) + 1) = (nI (sNp h + 1)) from (nI_1 _)]
  obtain ⟨I4_, hI4_⟩ : ∃ z, z = up I2_ [0] 1 (nI (sNp h + 1)) := ⟨_, rfl⟩
  refine x_put (C := RX6) (T := TX6) (N := 6) (ci := 6) hx hb hts iu6 tyX6 tyX6_ok nmX6 hown hK hH hS (id := [0]) (Or.inr (Or.inr ((show xD h [0] from by first | trivial | (simp only [xD]; omega) | (simp [xD]; done))))) rfl rfl (by decide) 1 (by decide) (hts _ tw132) (fun _ h9 => h9) (Or.inl rfl) (ty := .int) (v := .int (nI (sNp h + 1))) (by decide +kernel) rfl rfl (I' := I4_) (F' := F3_) (fun i hi => by rw [hI4_]; exact up_id hi) (fun _ _ => rfl) (fun j9 => by rw [hI4_, up_row]; exact xv_upd (ci := 6) (k := 1) rfl j9) dX6_addPlan_48 (fun H locs hH hS => ?_)
  refine lv_iload_n hx hb dX6_addPlan_51 rfl (lv_at hl 0 rfl) ?_
  exact x_iret hx hb hr hlocks hS dX6_addPlan_52 rfl (hH.congr (g' := g) (fun i hi => xD_Pn h h3 hi) (fun i _ => by rw [hI4_, hI2_, hI1_]; (try simp only [upR_upR]); rfl) (fun i hi => by rw [hF3_, hF2_, hF1_]; (try simp only [upR_upR]); exact xF_Pn h h3 i hi))

set_option maxHeartbeats 1000000 in
set_option maxRecDepth 100000 in
theorem c_X6_addStep_0 (l : Launch) (g : xG) (h : xS) (I : xI) (n : Nat) (hW : xWs0 h I) (p : Nat) (hpp : p < sNp h) (hu : I [5, p] 3 = 0) (h8 : sSz h p < 8) (kd : Int32) (hkd : kd = 115 ∨ kd = 116 ∨ kd = 109) (ha0 : ga g [7, p, sSz h p] = n) (ha1 : ga g [8, p, sSz h p, 0] = n + 1) (ha2 : ga g [9, p, sSz h p, 0] = n + 2) (ha3 : ga g [8, p, sSz h p, 1] = n + 3) (ha4 : ga g [9, p, sSz h p, 1] = n + 4) : xM l yX6_addStep (xws yX6_addStep cX6_addStep 5 (some FieldType.int)) 3 55 g [.ref (ga g [0]), .int (nI p), .int kd, .int (-1)] (xR g (xD h) I (xFh h) n) (some (.int (nI (sSz h p)))) (xR g (xD (hSt h p)) (iSt h I p kd (-1)) (xFh (hSt h p)) (n + 1 + 1 + 1 + 1 + 1)) 5 17 := by
  refine xM.of (by decide) (Nat.le_of_ble_eq_true rfl) ?_
  intro P_ e_ s m_ bl_ mt_ cd_ ls hx hb hr hown hlocks hml hnm hE hK hts hH hS hl
  have hl : lv_has ls 5 [(0, .ref (ga g [0])), (1, .int (nI p)), (2, .int kd), (3, .int (-1))] := hl
  have h3 := hW.1
  have hWp := hW.2.2 _ hpp
  have hs : narrow .char (.int kd) = .int kd := by rcases hkd with rfl | rfl | rfl <;> rfl
  have hf : fits .char (.int kd) = true := by rcases hkd with rfl | rfl | rfl <;> rfl
  refine lv_aload_n hx hb dX6_addStep_0 rfl (lv_at hl 0 rfl) ?_
  refine lv_iload_n hx hb dX6_addStep_1 rfl (lv_at hl 1 rfl) ?_
  refine x_V1 hx hb hml hown hE hS hl.1 cyX6_existingPlan tw247 (c_X6_existingPlan l g h I n p hpp h3 hW.2.1) ⟨Nat.le_of_ble_eq_true rfl, Nat.le_of_ble_eq_true rfl⟩ ⟨Nat.le_of_ble_eq_true rfl, Nat.le_of_ble_eq_true rfl⟩ (x_recv hK hH (id := [0]) (by first | trivial | (simp only [xD]; omega) | (simp [xD]; done) | (simp [xD]; omega)) (ci := 6) rfl (by decide) rfl) hH rfl rfl (Nat.le_of_ble_eq_true rfl) dX6_addStep_2 (fun H locs hH hS => ?_)
  refine lv_astore (lv' := [(4, .ref (ga g [5, p])), (0, .ref (ga g [0])), (1, .int (nI p)), (2, .int kd), (3, .int (-1))]) hx hb dX6_addStep_5 hl (by decide) rfl (fun ls hl => ?_)
  refine lv_iload_n hx hb dX6_addStep_7 rfl (lv_at hl 3 rfl) ?_
  refine lv_bipush (v := 115) hx hb dX6_addStep_8 (by decide) ?_
  refine lv_icmp_eq (tgt := 35) hx hb dX6_addStep_10 (by decide) (fun c_10 => ?_) (fun c_10 => ?_)
  · skip
    refine lv_iload_n hx hb dX6_addStep_35 rfl (lv_at hl 4 rfl) ?_
    refine lv_iconst (v := (-1)) hx hb dX6_addStep_36 (by decide) ?_
    refine lv_icmp_eq (tgt := 59) hx hb dX6_addStep_37 (by decide) (fun _ => ?_) (fun q_ => absurd (by decide) q_)
    refine lv_aload hx hb dX6_addStep_59 (lv_at hl 0 rfl) ?_
    refine x_S0 hx hb hml hown hE hS hl.1 cyX6_refuseUsed tw296 (c_X6_refuseUsed l g h I n p hpp hu) ⟨Nat.le_of_ble_eq_true rfl, Nat.le_of_ble_eq_true rfl⟩ ⟨Nat.le_of_ble_eq_true rfl, Nat.le_of_ble_eq_true rfl⟩ hH rfl rfl (Nat.le_of_ble_eq_true rfl) dX6_addStep_61 (fun H locs hH hS => ?_)
    refine lv_aload hx hb dX6_addStep_64 (lv_at hl 0 rfl) ?_
    refine x_get (C := RX4) (T := TX4) (N := 4) (ci := 4) hx hb hts iu4 hown hK hH (id := [5, p]) (by first | trivial | (simp only [xD]; omega) | (simp [xD]; done) | (simp [xD]; omega)) rfl rfl (by decide) 2 (by decide) (hts _ tw73) (fun _ h9 => h9) rfl (v := .int (nI (sSz h p))) (congrArg Value.int hWp.2.2.1) dX6_addStep_66 ?_
    refine lv_bipush (v := 8) hx hb dX6_addStep_69 (by decide) ?_
    refine lv_icmp_lt (tgt := 84) hx hb dX6_addStep_71 (by decide) (fun _ => ?_) (fun q_ => absurd ((nI_ltI (a := (sSz h p)) (b := 8) (by omega) (by omega)).mpr (by omega)) q_)
    refine lv_aload hx hb dX6_addStep_84 (lv_at hl 0 rfl) ?_
    refine x_new (C := RX5) (T := TX5) (N := 7) (ci := 5) hx hb hts iu5 tyX5 tyX5_ok hown (hts _ tw301) (hts _ tw302) (hts _ tw17) hK hH hS [7, p, sSz h p] (by first | (simp [xD]; done) | (simp [xD]; omega)) (by omega) rfl (by decide) rfl (df5 _) (Nat.le_of_ble_eq_true rfl) (Nat.le_of_ble_eq_true rfl) dX6_addStep_86 (fun H hH hS => ?_)
    obtain ⟨I1_, hI1_⟩ : ∃ z, z = upR I [7, p, sSz h p] (fun _ => (0 : Int32)) := ⟨_, rfl⟩
    obtain ⟨F1_, hF1_⟩ : ∃ z, z = upR (xFh h) [7, p, sSz h p] (fun _ => (none : Option (List Nat))) := ⟨_, rfl⟩
    rw [← hI1_, ← hF1_] at hH
    refine lv_dup hx hb dX6_addStep_89 rfl ?_
    refine lv_iload_n hx hb dX6_addStep_90 rfl (lv_at hl 3 rfl) ?_
    refine lv_iload_n hx hb dX6_addStep_91 rfl (lv_at hl 4 rfl) ?_
    refine x_I0 hx hb hml hown hE hS hl.1 cyX5_init tw303 (c_X5_init l g (fun i => i = [7, p, sSz h p] ∨ (xD h) i) I1_ F1_ ((n + 1)) p (sSz h p) kd (-1) hs hf (Or.inl rfl) (by first | (rw [hI1_]; simp [upR]) | simp [upR]) (by first | (rw [hF1_]; simp [upR, up]) | simp [upR]) (by first | (simp [xD]; done) | (simp [xD]; omega)) (by omega) (by first | (simp [xD]; done) | (simp [xD]; omega)) (by omega) (by first | (simp [xD]; done) | (simp [xD]; omega)) (by omega) (by first | (simp [xD]; done) | (simp [xD]; omega)) (by omega)) ⟨Nat.le_of_ble_eq_true rfl, Nat.le_of_ble_eq_true rfl⟩ ⟨Nat.le_of_ble_eq_true rfl, Nat.le_of_ble_eq_true rfl⟩ hH rfl rfl (Nat.le_of_ble_eq_true rfl) dX6_addStep_92 (fun H locs hH hS => ?_)
    obtain ⟨I2_, hI2_⟩ : ∃ z, z = (upR (upR (upR (upR (upR I1_ [7, p, sSz h p] (rS kd (-1))) [8, p, sSz h p, 0] r0) [9, p, sSz h p, 0] r0) [8, p, sSz h p, 1] r0) [9, p, sSz h p, 1] r0) := ⟨_, rfl⟩
    obtain ⟨F2_, hF2_⟩ : ∃ z, z = (upR (upR (upR (upR (upR F1_ [7, p, sSz h p] (qS p (sSz h p))) [8, p, sSz h p, 0] (q1 0 [9, p, sSz h p, 0])) [9, p, sSz h p, 0] q0) [8, p, sSz h p, 1] (q1 0 [9, p, sSz h p, 1])) [9, p, sSz h p, 1] q0) := ⟨_, rfl⟩
    rw [← hI2_, ← hF2_] at hH
    refine x_V1 hx hb hml hown hE hS hl.1 cyX4_append tw360 (c_X4_append l g (fun i => i = [9, p, sSz h p, 1] ∨ (fun i => i = [8, p, sSz h p, 1] ∨ (fun i => i = [9, p, sSz h p, 0] ∨ (fun i => i = [8, p, sSz h p, 0] ∨ (fun i => i = [7, p, sSz h p] ∨ (xD h) i) i) i) i) i) I2_ F2_ (((((n + 1) + 1) + 1) + 1) + 1) p (sSz h p) (Or.inr (Or.inr (Or.inr (Or.inr (Or.inr ((show xD h [5, p] from by first | trivial | (simp only [xD]; omega) | (simp [xD]; done)))))))) (Or.inr (Or.inr (Or.inr (Or.inr (Or.inr ((show xD h [6, p] from by first | trivial | (simp only [xD]; omega) | (simp [xD]; done)))))))) (Or.inr (Or.inr (Or.inr (Or.inr (Or.inl rfl))))) (by rw [hF2_, hF1_]; simp [upR, xFh]) (by rw [hI2_, hI1_]; simp [upR, hWp.2.2.1]) h8) ⟨Nat.le_of_ble_eq_true rfl, Nat.le_of_ble_eq_true rfl⟩ ⟨Nat.le_of_ble_eq_true rfl, Nat.le_of_ble_eq_true rfl⟩ (x_recv hK hH (id := [5, p]) (Or.inr (Or.inr (Or.inr (Or.inr (Or.inr ((show xD h [5, p] from by first | trivial | (simp only [xD]; omega) | (simp [xD]; done)))))))) (ci := 4) rfl (by decide) rfl) hH rfl rfl (Nat.le_of_ble_eq_true rfl) dX6_addStep_95 (fun H locs hH hS => ?_)
    obtain ⟨I3_, hI3_⟩ : ∃ z, z = up I2_ [5, p] 2 (nI (sSz h p + 1)) := ⟨_, rfl⟩
    obtain ⟨F3_, hF3_⟩ : ∃ z, z = up F2_ [6, p] (sSz h p) (some [7, p, sSz h p]) := ⟨_, rfl⟩
    rw [← hI3_, ← hF3_] at hH
    exact x_iret hx hb hr hlocks hS dX6_addStep_98 rfl (hH.congr (g' := g) (fun i hi => xD_St h p hpp h8 hi) (fun i _ => by rw [hI3_, hI2_, hI1_]; (try simp only [upR_upR]); rfl) (fun i hi => by rw [hF3_, hF2_, hF1_]; (try simp only [upR_upR]); exact xF_St h p hpp h8 i hi))
  · skip
    refine lv_iload_n hx hb dX6_addStep_13 rfl (lv_at hl 3 rfl) ?_
    refine lv_bipush (v := 116) hx hb dX6_addStep_14 (by decide) ?_
    refine lv_icmp_eq (tgt := 35) hx hb dX6_addStep_16 (by decide) (fun c_16 => ?_) (fun c_16 => ?_)
    · skip
      refine lv_iload_n hx hb dX6_addStep_35 rfl (lv_at hl 4 rfl) ?_
      refine lv_iconst (v := (-1)) hx hb dX6_addStep_36 (by decide) ?_
      refine lv_icmp_eq (tgt := 59) hx hb dX6_addStep_37 (by decide) (fun _ => ?_) (fun q_ => absurd (by decide) q_)
      refine lv_aload hx hb dX6_addStep_59 (lv_at hl 0 rfl) ?_
      refine x_S0 hx hb hml hown hE hS hl.1 cyX6_refuseUsed tw296 (c_X6_refuseUsed l g h I n p hpp hu) ⟨Nat.le_of_ble_eq_true rfl, Nat.le_of_ble_eq_true rfl⟩ ⟨Nat.le_of_ble_eq_true rfl, Nat.le_of_ble_eq_true rfl⟩ hH rfl rfl (Nat.le_of_ble_eq_true rfl) dX6_addStep_61 (fun H locs hH hS => ?_)
      refine lv_aload hx hb dX6_addStep_64 (lv_at hl 0 rfl) ?_
      refine x_get (C := RX4) (T := TX4) (N := 4) (ci := 4) hx hb hts iu4 hown hK hH (id := [5, p]) (by first | trivial | (simp only [xD]; omega) | (simp [xD]; done) | (simp [xD]; omega)) rfl rfl (by decide) 2 (by decide) (hts _ tw73) (fun _ h9 => h9) rfl (v := .int (nI (sSz h p))) (congrArg Value.int hWp.2.2.1) dX6_addStep_66 ?_
      refine lv_bipush (v := 8) hx hb dX6_addStep_69 (by decide) ?_
      refine lv_icmp_lt (tgt := 84) hx hb dX6_addStep_71 (by decide) (fun _ => ?_) (fun q_ => absurd ((nI_ltI (a := (sSz h p)) (b := 8) (by omega) (by omega)).mpr (by omega)) q_)
      refine lv_aload hx hb dX6_addStep_84 (lv_at hl 0 rfl) ?_
      refine x_new (C := RX5) (T := TX5) (N := 7) (ci := 5) hx hb hts iu5 tyX5 tyX5_ok hown (hts _ tw301) (hts _ tw302) (hts _ tw17) hK hH hS [7, p, sSz h p] (by first | (simp [xD]; done) | (simp [xD]; omega)) (by omega) rfl (by decide) rfl (df5 _) (Nat.le_of_ble_eq_true rfl) (Nat.le_of_ble_eq_true rfl) dX6_addStep_86 (fun H hH hS => ?_)
      obtain ⟨I4_, hI4_⟩ : ∃ z, z = upR I [7, p, sSz h p] (fun _ => (0 : Int32)) := ⟨_, rfl⟩
      obtain ⟨F4_, hF4_⟩ : ∃ z, z = upR (xFh h) [7, p, sSz h p] (fun _ => (none : Option (List Nat))) := ⟨_, rfl⟩
      rw [← hI4_, ← hF4_] at hH
      refine lv_dup hx hb dX6_addStep_89 rfl ?_
      refine lv_iload_n hx hb dX6_addStep_90 rfl (lv_at hl 3 rfl) ?_
      refine lv_iload_n hx hb dX6_addStep_91 rfl (lv_at hl 4 rfl) ?_
      refine x_I0 hx hb hml hown hE hS hl.1 cyX5_init tw303 (c_X5_init l g (fun i => i = [7, p, sSz h p] ∨ (xD h) i) I4_ F4_ ((n + 1)) p (sSz h p) kd (-1) hs hf (Or.inl rfl) (by first | (rw [hI4_]; simp [upR]) | simp [upR]) (by first | (rw [hF4_]; simp [upR, up]) | simp [upR]) (by first | (simp [xD]; done) | (simp [xD]; omega)) (by omega) (by first | (simp [xD]; done) | (simp [xD]; omega)) (by omega) (by first | (simp [xD]; done) | (simp [xD]; omega)) (by omega) (by first | (simp [xD]; done) | (simp [xD]; omega)) (by omega)) ⟨Nat.le_of_ble_eq_true rfl, Nat.le_of_ble_eq_true rfl⟩ ⟨Nat.le_of_ble_eq_true rfl, Nat.le_of_ble_eq_true rfl⟩ hH rfl rfl (Nat.le_of_ble_eq_true rfl) dX6_addStep_92 (fun H locs hH hS => ?_)
      obtain ⟨I5_, hI5_⟩ : ∃ z, z = (upR (upR (upR (upR (upR I4_ [7, p, sSz h p] (rS kd (-1))) [8, p, sSz h p, 0] r0) [9, p, sSz h p, 0] r0) [8, p, sSz h p, 1] r0) [9, p, sSz h p, 1] r0) := ⟨_, rfl⟩
      obtain ⟨F5_, hF5_⟩ : ∃ z, z = (upR (upR (upR (upR (upR F4_ [7, p, sSz h p] (qS p (sSz h p))) [8, p, sSz h p, 0] (q1 0 [9, p, sSz h p, 0])) [9, p, sSz h p, 0] q0) [8, p, sSz h p, 1] (q1 0 [9, p, sSz h p, 1])) [9, p, sSz h p, 1] q0) := ⟨_, rfl⟩
      rw [← hI5_, ← hF5_] at hH
      refine x_V1 hx hb hml hown hE hS hl.1 cyX4_append tw360 (c_X4_append l g (fun i => i = [9, p, sSz h p, 1] ∨ (fun i => i = [8, p, sSz h p, 1] ∨ (fun i => i = [9, p, sSz h p, 0] ∨ (fun i => i = [8, p, sSz h p, 0] ∨ (fun i => i = [7, p, sSz h p] ∨ (xD h) i) i) i) i) i) I5_ F5_ (((((n + 1) + 1) + 1) + 1) + 1) p (sSz h p) (Or.inr (Or.inr (Or.inr (Or.inr (Or.inr ((show xD h [5, p] from by first | trivial | (simp only [xD]; omega) | (simp [xD]; done)))))))) (Or.inr (Or.inr (Or.inr (Or.inr (Or.inr ((show xD h [6, p] from by first | trivial | (simp only [xD]; omega) | (simp [xD]; done)))))))) (Or.inr (Or.inr (Or.inr (Or.inr (Or.inl rfl))))) (by rw [hF5_, hF4_]; simp [upR, xFh]) (by rw [hI5_, hI4_]; simp [upR, hWp.2.2.1]) h8) ⟨Nat.le_of_ble_eq_true rfl, Nat.le_of_ble_eq_true rfl⟩ ⟨Nat.le_of_ble_eq_true rfl, Nat.le_of_ble_eq_true rfl⟩ (x_recv hK hH (id := [5, p]) (Or.inr (Or.inr (Or.inr (Or.inr (Or.inr ((show xD h [5, p] from by first | trivial | (simp only [xD]; omega) | (simp [xD]; done)))))))) (ci := 4) rfl (by decide) rfl) hH rfl rfl (Nat.le_of_ble_eq_true rfl) dX6_addStep_95 (fun H locs hH hS => ?_)
      obtain ⟨I6_, hI6_⟩ : ∃ z, z = up I5_ [5, p] 2 (nI (sSz h p + 1)) := ⟨_, rfl⟩
      obtain ⟨F6_, hF6_⟩ : ∃ z, z = up F5_ [6, p] (sSz h p) (some [7, p, sSz h p]) := ⟨_, rfl⟩
      rw [← hI6_, ← hF6_] at hH
      exact x_iret hx hb hr hlocks hS dX6_addStep_98 rfl (hH.congr (g' := g) (fun i hi => xD_St h p hpp h8 hi) (fun i _ => by rw [hI6_, hI5_, hI4_]; (try simp only [upR_upR]); rfl) (fun i hi => by rw [hF6_, hF5_, hF4_]; (try simp only [upR_upR]); exact xF_St h p hpp h8 i hi))
    · skip
      refine lv_iload_n hx hb dX6_addStep_19 rfl (lv_at hl 3 rfl) ?_
      refine lv_bipush (v := 109) hx hb dX6_addStep_20 (by decide) ?_
      refine lv_icmp_eq (tgt := 35) hx hb dX6_addStep_22 (by decide) (fun _ => ?_) (fun q_ => absurd ((hkd.resolve_left c_10).resolve_left c_16) q_)
      refine lv_iload_n hx hb dX6_addStep_35 rfl (lv_at hl 4 rfl) ?_
      refine lv_iconst (v := (-1)) hx hb dX6_addStep_36 (by decide) ?_
      refine lv_icmp_eq (tgt := 59) hx hb dX6_addStep_37 (by decide) (fun _ => ?_) (fun q_ => absurd (by decide) q_)
      refine lv_aload hx hb dX6_addStep_59 (lv_at hl 0 rfl) ?_
      refine x_S0 hx hb hml hown hE hS hl.1 cyX6_refuseUsed tw296 (c_X6_refuseUsed l g h I n p hpp hu) ⟨Nat.le_of_ble_eq_true rfl, Nat.le_of_ble_eq_true rfl⟩ ⟨Nat.le_of_ble_eq_true rfl, Nat.le_of_ble_eq_true rfl⟩ hH rfl rfl (Nat.le_of_ble_eq_true rfl) dX6_addStep_61 (fun H locs hH hS => ?_)
      refine lv_aload hx hb dX6_addStep_64 (lv_at hl 0 rfl) ?_
      refine x_get (C := RX4) (T := TX4) (N := 4) (ci := 4) hx hb hts iu4 hown hK hH (id := [5, p]) (by first | trivial | (simp only [xD]; omega) | (simp [xD]; done) | (simp [xD]; omega)) rfl rfl (by decide) 2 (by decide) (hts _ tw73) (fun _ h9 => h9) rfl (v := .int (nI (sSz h p))) (congrArg Value.int hWp.2.2.1) dX6_addStep_66 ?_
      refine lv_bipush (v := 8) hx hb dX6_addStep_69 (by decide) ?_
      refine lv_icmp_lt (tgt := 84) hx hb dX6_addStep_71 (by decide) (fun _ => ?_) (fun q_ => absurd ((nI_ltI (a := (sSz h p)) (b := 8) (by omega) (by omega)).mpr (by omega)) q_)
      refine lv_aload hx hb dX6_addStep_84 (lv_at hl 0 rfl) ?_
      refine x_new (C := RX5) (T := TX5) (N := 7) (ci := 5) hx hb hts iu5 tyX5 tyX5_ok hown (hts _ tw301) (hts _ tw302) (hts _ tw17) hK hH hS [7, p, sSz h p] (by first | (simp [xD]; done) | (simp [xD]; omega)) (by omega) rfl (by decide) rfl (df5 _) (Nat.le_of_ble_eq_true rfl) (Nat.le_of_ble_eq_true rfl) dX6_addStep_86 (fun H hH hS => ?_)
      obtain ⟨I7_, hI7_⟩ : ∃ z, z = upR I [7, p, sSz h p] (fun _ => (0 : Int32)) := ⟨_, rfl⟩
      obtain ⟨F7_, hF7_⟩ : ∃ z, z = upR (xFh h) [7, p, sSz h p] (fun _ => (none : Option (List Nat))) := ⟨_, rfl⟩
      rw [← hI7_, ← hF7_] at hH
      refine lv_dup hx hb dX6_addStep_89 rfl ?_
      refine lv_iload_n hx hb dX6_addStep_90 rfl (lv_at hl 3 rfl) ?_
      refine lv_iload_n hx hb dX6_addStep_91 rfl (lv_at hl 4 rfl) ?_
      refine x_I0 hx hb hml hown hE hS hl.1 cyX5_init tw303 (c_X5_init l g (fun i => i = [7, p, sSz h p] ∨ (xD h) i) I7_ F7_ ((n + 1)) p (sSz h p) kd (-1) hs hf (Or.inl rfl) (by first | (rw [hI7_]; simp [upR]) | simp [upR]) (by first | (rw [hF7_]; simp [upR, up]) | simp [upR]) (by first | (simp [xD]; done) | (simp [xD]; omega)) (by omega) (by first | (simp [xD]; done) | (simp [xD]; omega)) (by omega) (by first | (simp [xD]; done) | (simp [xD]; omega)) (by omega) (by first | (simp [xD]; done) | (simp [xD]; omega)) (by omega)) ⟨Nat.le_of_ble_eq_true rfl, Nat.le_of_ble_eq_true rfl⟩ ⟨Nat.le_of_ble_eq_true rfl, Nat.le_of_ble_eq_true rfl⟩ hH rfl rfl (Nat.le_of_ble_eq_true rfl) dX6_addStep_92 (fun H locs hH hS => ?_)
      obtain ⟨I8_, hI8_⟩ : ∃ z, z = (upR (upR (upR (upR (upR I7_ [7, p, sSz h p] (rS kd (-1))) [8, p, sSz h p, 0] r0) [9, p, sSz h p, 0] r0) [8, p, sSz h p, 1] r0) [9, p, sSz h p, 1] r0) := ⟨_, rfl⟩
      obtain ⟨F8_, hF8_⟩ : ∃ z, z = (upR (upR (upR (upR (upR F7_ [7, p, sSz h p] (qS p (sSz h p))) [8, p, sSz h p, 0] (q1 0 [9, p, sSz h p, 0])) [9, p, sSz h p, 0] q0) [8, p, sSz h p, 1] (q1 0 [9, p, sSz h p, 1])) [9, p, sSz h p, 1] q0) := ⟨_, rfl⟩
      rw [← hI8_, ← hF8_] at hH
      refine x_V1 hx hb hml hown hE hS hl.1 cyX4_append tw360 (c_X4_append l g (fun i => i = [9, p, sSz h p, 1] ∨ (fun i => i = [8, p, sSz h p, 1] ∨ (fun i => i = [9, p, sSz h p, 0] ∨ (fun i => i = [8, p, sSz h p, 0] ∨ (fun i => i = [7, p, sSz h p] ∨ (xD h) i) i) i) i) i) I8_ F8_ (((((n + 1) + 1) + 1) + 1) + 1) p (sSz h p) (Or.inr (Or.inr (Or.inr (Or.inr (Or.inr ((show xD h [5, p] from by first | trivial | (simp only [xD]; omega) | (simp [xD]; done)))))))) (Or.inr (Or.inr (Or.inr (Or.inr (Or.inr ((show xD h [6, p] from by first | trivial | (simp only [xD]; omega) | (simp [xD]; done)))))))) (Or.inr (Or.inr (Or.inr (Or.inr (Or.inl rfl))))) (by rw [hF8_, hF7_]; simp [upR, xFh]) (by rw [hI8_, hI7_]; simp [upR, hWp.2.2.1]) h8) ⟨Nat.le_of_ble_eq_true rfl, Nat.le_of_ble_eq_true rfl⟩ ⟨Nat.le_of_ble_eq_true rfl, Nat.le_of_ble_eq_true rfl⟩ (x_recv hK hH (id := [5, p]) (Or.inr (Or.inr (Or.inr (Or.inr (Or.inr ((show xD h [5, p] from by first | trivial | (simp only [xD]; omega) | (simp [xD]; done)))))))) (ci := 4) rfl (by decide) rfl) hH rfl rfl (Nat.le_of_ble_eq_true rfl) dX6_addStep_95 (fun H locs hH hS => ?_)
      obtain ⟨I9_, hI9_⟩ : ∃ z, z = up I8_ [5, p] 2 (nI (sSz h p + 1)) := ⟨_, rfl⟩
      obtain ⟨F9_, hF9_⟩ : ∃ z, z = up F8_ [6, p] (sSz h p) (some [7, p, sSz h p]) := ⟨_, rfl⟩
      rw [← hI9_, ← hF9_] at hH
      exact x_iret hx hb hr hlocks hS dX6_addStep_98 rfl (hH.congr (g' := g) (fun i hi => xD_St h p hpp h8 hi) (fun i _ => by rw [hI9_, hI8_, hI7_]; (try simp only [upR_upR]); rfl) (fun i hi => by rw [hF9_, hF8_, hF7_]; (try simp only [upR_upR]); exact xF_St h p hpp h8 i hi))

set_option maxHeartbeats 1000000 in
set_option maxRecDepth 100000 in
theorem c_X6_addStep_1 (l : Launch) (g : xG) (h : xS) (I : xI) (n : Nat) (hW : xWs0 h I) (p : Nat) (hpp : p < sNp h) (hu : I [5, p] 3 = 0) (h8 : sSz h p < 8) (kd : Int32) (hkd : kd = 115 ∨ kd = 116 ∨ kd = 109) (q : Nat) (hq : q < sSz h p) (hq1 : I [7, p, q] 0 = 115) (ha0 : ga g [7, p, sSz h p] = n) (ha1 : ga g [8, p, sSz h p, 0] = n + 1) (ha2 : ga g [9, p, sSz h p, 0] = n + 2) (ha3 : ga g [8, p, sSz h p, 1] = n + 3) (ha4 : ga g [9, p, sSz h p, 1] = n + 4) : xM l yX6_addStep (xws yX6_addStep cX6_addStep 5 (some FieldType.int)) 3 55 g [.ref (ga g [0]), .int (nI p), .int kd, .int (nI q)] (xR g (xD h) I (xFh h) n) (some (.int (nI (sSz h p)))) (xR g (xD (hSt h p)) (iSt h I p kd (nI q)) (xFh (hSt h p)) (n + 1 + 1 + 1 + 1 + 1)) 5 17 := by
  refine xM.of (by decide) (Nat.le_of_ble_eq_true rfl) ?_
  intro P_ e_ s m_ bl_ mt_ cd_ ls hx hb hr hown hlocks hml hnm hE hK hts hH hS hl
  have hl : lv_has ls 5 [(0, .ref (ga g [0])), (1, .int (nI p)), (2, .int kd), (3, .int (nI q))] := hl
  have h3 := hW.1
  have hWp := hW.2.2 _ hpp
  have hs : narrow .char (.int kd) = .int kd := by rcases hkd with rfl | rfl | rfl <;> rfl
  have hf : fits .char (.int kd) = true := by rcases hkd with rfl | rfl | rfl <;> rfl
  refine lv_aload_n hx hb dX6_addStep_0 rfl (lv_at hl 0 rfl) ?_
  refine lv_iload_n hx hb dX6_addStep_1 rfl (lv_at hl 1 rfl) ?_
  refine x_V1 hx hb hml hown hE hS hl.1 cyX6_existingPlan tw247 (c_X6_existingPlan l g h I n p hpp h3 hW.2.1) ⟨Nat.le_of_ble_eq_true rfl, Nat.le_of_ble_eq_true rfl⟩ ⟨Nat.le_of_ble_eq_true rfl, Nat.le_of_ble_eq_true rfl⟩ (x_recv hK hH (id := [0]) (by first | trivial | (simp only [xD]; omega) | (simp [xD]; done) | (simp [xD]; omega)) (ci := 6) rfl (by decide) rfl) hH rfl rfl (Nat.le_of_ble_eq_true rfl) dX6_addStep_2 (fun H locs hH hS => ?_)
  refine lv_astore (lv' := [(4, .ref (ga g [5, p])), (0, .ref (ga g [0])), (1, .int (nI p)), (2, .int kd), (3, .int (nI q))]) hx hb dX6_addStep_5 hl (by decide) rfl (fun ls hl => ?_)
  refine lv_iload_n hx hb dX6_addStep_7 rfl (lv_at hl 3 rfl) ?_
  refine lv_bipush (v := 115) hx hb dX6_addStep_8 (by decide) ?_
  refine lv_icmp_eq (tgt := 35) hx hb dX6_addStep_10 (by decide) (fun c_10 => ?_) (fun c_10 => ?_)
  · skip
    refine lv_iload_n hx hb dX6_addStep_35 rfl (lv_at hl 4 rfl) ?_
    refine lv_iconst (v := (-1)) hx hb dX6_addStep_36 (by decide) ?_
    refine lv_icmp_eq (tgt := 59) hx hb dX6_addStep_37 (by decide) (fun q_ => absurd q_ (nI_m1 (by omega))) (fun _ => ?_)
    refine lv_aload hx hb dX6_addStep_40 (lv_at hl 0 rfl) ?_
    refine lv_iload_n hx hb dX6_addStep_42 rfl (lv_at hl 4 rfl) ?_
    refine x_V1 hx hb hml hown hE hS hl.1 cyX4_isStage tw287 (c_X4_isStage l g h I n p q hpp hq (by omega) hWp.2.2.1) ⟨Nat.le_of_ble_eq_true rfl, Nat.le_of_ble_eq_true rfl⟩ ⟨Nat.le_of_ble_eq_true rfl, Nat.le_of_ble_eq_true rfl⟩ (x_recv hK hH (id := [5, p]) (by first | trivial | (simp only [xD]; omega) | (simp [xD]; done) | (simp [xD]; omega)) (ci := 4) rfl (by decide) rfl) hH rfl rfl (Nat.le_of_ble_eq_true rfl) dX6_addStep_43 (fun H locs hH hS => ?_)
    refine lv_if_ne (tgt := 59) hx hb dX6_addStep_46 (by decide) (fun _ => ?_) (fun q_ => absurd q_ (by rw [hq1]; decide))
    refine lv_aload hx hb dX6_addStep_59 (lv_at hl 0 rfl) ?_
    refine x_S0 hx hb hml hown hE hS hl.1 cyX6_refuseUsed tw296 (c_X6_refuseUsed l g h I n p hpp hu) ⟨Nat.le_of_ble_eq_true rfl, Nat.le_of_ble_eq_true rfl⟩ ⟨Nat.le_of_ble_eq_true rfl, Nat.le_of_ble_eq_true rfl⟩ hH rfl rfl (Nat.le_of_ble_eq_true rfl) dX6_addStep_61 (fun H locs hH hS => ?_)
    refine lv_aload hx hb dX6_addStep_64 (lv_at hl 0 rfl) ?_
    refine x_get (C := RX4) (T := TX4) (N := 4) (ci := 4) hx hb hts iu4 hown hK hH (id := [5, p]) (by first | trivial | (simp only [xD]; omega) | (simp [xD]; done) | (simp [xD]; omega)) rfl rfl (by decide) 2 (by decide) (hts _ tw73) (fun _ h9 => h9) rfl (v := .int (nI (sSz h p))) (congrArg Value.int hWp.2.2.1) dX6_addStep_66 ?_
    refine lv_bipush (v := 8) hx hb dX6_addStep_69 (by decide) ?_
    refine lv_icmp_lt (tgt := 84) hx hb dX6_addStep_71 (by decide) (fun _ => ?_) (fun q_ => absurd ((nI_ltI (a := (sSz h p)) (b := 8) (by omega) (by omega)).mpr (by omega)) q_)
    refine lv_aload hx hb dX6_addStep_84 (lv_at hl 0 rfl) ?_
    refine x_new (C := RX5) (T := TX5) (N := 7) (ci := 5) hx hb hts iu5 tyX5 tyX5_ok hown (hts _ tw301) (hts _ tw302) (hts _ tw17) hK hH hS [7, p, sSz h p] (by first | (simp [xD]; done) | (simp [xD]; omega)) (by omega) rfl (by decide) rfl (df5 _) (Nat.le_of_ble_eq_true rfl) (Nat.le_of_ble_eq_true rfl) dX6_addStep_86 (fun H hH hS => ?_)
    obtain ⟨I1_, hI1_⟩ : ∃ z, z = upR I [7, p, sSz h p] (fun _ => (0 : Int32)) := ⟨_, rfl⟩
    obtain ⟨F1_, hF1_⟩ : ∃ z, z = upR (xFh h) [7, p, sSz h p] (fun _ => (none : Option (List Nat))) := ⟨_, rfl⟩
    rw [← hI1_, ← hF1_] at hH
    refine lv_dup hx hb dX6_addStep_89 rfl ?_
    refine lv_iload_n hx hb dX6_addStep_90 rfl (lv_at hl 3 rfl) ?_
    refine lv_iload_n hx hb dX6_addStep_91 rfl (lv_at hl 4 rfl) ?_
    refine x_I0 hx hb hml hown hE hS hl.1 cyX5_init tw303 (c_X5_init l g (fun i => i = [7, p, sSz h p] ∨ (xD h) i) I1_ F1_ ((n + 1)) p (sSz h p) kd (nI q) hs hf (Or.inl rfl) (by first | (rw [hI1_]; simp [upR]) | simp [upR]) (by first | (rw [hF1_]; simp [upR, up]) | simp [upR]) (by first | (simp [xD]; done) | (simp [xD]; omega)) (by omega) (by first | (simp [xD]; done) | (simp [xD]; omega)) (by omega) (by first | (simp [xD]; done) | (simp [xD]; omega)) (by omega) (by first | (simp [xD]; done) | (simp [xD]; omega)) (by omega)) ⟨Nat.le_of_ble_eq_true rfl, Nat.le_of_ble_eq_true rfl⟩ ⟨Nat.le_of_ble_eq_true rfl, Nat.le_of_ble_eq_true rfl⟩ hH rfl rfl (Nat.le_of_ble_eq_true rfl) dX6_addStep_92 (fun H locs hH hS => ?_)
    obtain ⟨I2_, hI2_⟩ : ∃ z, z = (upR (upR (upR (upR (upR I1_ [7, p, sSz h p] (rS kd (nI q))) [8, p, sSz h p, 0] r0) [9, p, sSz h p, 0] r0) [8, p, sSz h p, 1] r0) [9, p, sSz h p, 1] r0) := ⟨_, rfl⟩
    obtain ⟨F2_, hF2_⟩ : ∃ z, z = (upR (upR (upR (upR (upR F1_ [7, p, sSz h p] (qS p (sSz h p))) [8, p, sSz h p, 0] (q1 0 [9, p, sSz h p, 0])) [9, p, sSz h p, 0] q0) [8, p, sSz h p, 1] (q1 0 [9, p, sSz h p, 1])) [9, p, sSz h p, 1] q0) := ⟨_, rfl⟩
    rw [← hI2_, ← hF2_] at hH
    refine x_V1 hx hb hml hown hE hS hl.1 cyX4_append tw360 (c_X4_append l g (fun i => i = [9, p, sSz h p, 1] ∨ (fun i => i = [8, p, sSz h p, 1] ∨ (fun i => i = [9, p, sSz h p, 0] ∨ (fun i => i = [8, p, sSz h p, 0] ∨ (fun i => i = [7, p, sSz h p] ∨ (xD h) i) i) i) i) i) I2_ F2_ (((((n + 1) + 1) + 1) + 1) + 1) p (sSz h p) (Or.inr (Or.inr (Or.inr (Or.inr (Or.inr ((show xD h [5, p] from by first | trivial | (simp only [xD]; omega) | (simp [xD]; done)))))))) (Or.inr (Or.inr (Or.inr (Or.inr (Or.inr ((show xD h [6, p] from by first | trivial | (simp only [xD]; omega) | (simp [xD]; done)))))))) (Or.inr (Or.inr (Or.inr (Or.inr (Or.inl rfl))))) (by rw [hF2_, hF1_]; simp [upR, xFh]) (by rw [hI2_, hI1_]; simp [upR, hWp.2.2.1]) h8) ⟨Nat.le_of_ble_eq_true rfl, Nat.le_of_ble_eq_true rfl⟩ ⟨Nat.le_of_ble_eq_true rfl, Nat.le_of_ble_eq_true rfl⟩ (x_recv hK hH (id := [5, p]) (Or.inr (Or.inr (Or.inr (Or.inr (Or.inr ((show xD h [5, p] from by first | trivial | (simp only [xD]; omega) | (simp [xD]; done)))))))) (ci := 4) rfl (by decide) rfl) hH rfl rfl (Nat.le_of_ble_eq_true rfl) dX6_addStep_95 (fun H locs hH hS => ?_)
    obtain ⟨I3_, hI3_⟩ : ∃ z, z = up I2_ [5, p] 2 (nI (sSz h p + 1)) := ⟨_, rfl⟩
    obtain ⟨F3_, hF3_⟩ : ∃ z, z = up F2_ [6, p] (sSz h p) (some [7, p, sSz h p]) := ⟨_, rfl⟩
    rw [← hI3_, ← hF3_] at hH
    exact x_iret hx hb hr hlocks hS dX6_addStep_98 rfl (hH.congr (g' := g) (fun i hi => xD_St h p hpp h8 hi) (fun i _ => by rw [hI3_, hI2_, hI1_]; (try simp only [upR_upR]); rfl) (fun i hi => by rw [hF3_, hF2_, hF1_]; (try simp only [upR_upR]); exact xF_St h p hpp h8 i hi))
  · skip
    refine lv_iload_n hx hb dX6_addStep_13 rfl (lv_at hl 3 rfl) ?_
    refine lv_bipush (v := 116) hx hb dX6_addStep_14 (by decide) ?_
    refine lv_icmp_eq (tgt := 35) hx hb dX6_addStep_16 (by decide) (fun c_16 => ?_) (fun c_16 => ?_)
    · skip
      refine lv_iload_n hx hb dX6_addStep_35 rfl (lv_at hl 4 rfl) ?_
      refine lv_iconst (v := (-1)) hx hb dX6_addStep_36 (by decide) ?_
      refine lv_icmp_eq (tgt := 59) hx hb dX6_addStep_37 (by decide) (fun q_ => absurd q_ (nI_m1 (by omega))) (fun _ => ?_)
      refine lv_aload hx hb dX6_addStep_40 (lv_at hl 0 rfl) ?_
      refine lv_iload_n hx hb dX6_addStep_42 rfl (lv_at hl 4 rfl) ?_
      refine x_V1 hx hb hml hown hE hS hl.1 cyX4_isStage tw287 (c_X4_isStage l g h I n p q hpp hq (by omega) hWp.2.2.1) ⟨Nat.le_of_ble_eq_true rfl, Nat.le_of_ble_eq_true rfl⟩ ⟨Nat.le_of_ble_eq_true rfl, Nat.le_of_ble_eq_true rfl⟩ (x_recv hK hH (id := [5, p]) (by first | trivial | (simp only [xD]; omega) | (simp [xD]; done) | (simp [xD]; omega)) (ci := 4) rfl (by decide) rfl) hH rfl rfl (Nat.le_of_ble_eq_true rfl) dX6_addStep_43 (fun H locs hH hS => ?_)
      refine lv_if_ne (tgt := 59) hx hb dX6_addStep_46 (by decide) (fun _ => ?_) (fun q_ => absurd q_ (by rw [hq1]; decide))
      refine lv_aload hx hb dX6_addStep_59 (lv_at hl 0 rfl) ?_
      refine x_S0 hx hb hml hown hE hS hl.1 cyX6_refuseUsed tw296 (c_X6_refuseUsed l g h I n p hpp hu) ⟨Nat.le_of_ble_eq_true rfl, Nat.le_of_ble_eq_true rfl⟩ ⟨Nat.le_of_ble_eq_true rfl, Nat.le_of_ble_eq_true rfl⟩ hH rfl rfl (Nat.le_of_ble_eq_true rfl) dX6_addStep_61 (fun H locs hH hS => ?_)
      refine lv_aload hx hb dX6_addStep_64 (lv_at hl 0 rfl) ?_
      refine x_get (C := RX4) (T := TX4) (N := 4) (ci := 4) hx hb hts iu4 hown hK hH (id := [5, p]) (by first | trivial | (simp only [xD]; omega) | (simp [xD]; done) | (simp [xD]; omega)) rfl rfl (by decide) 2 (by decide) (hts _ tw73) (fun _ h9 => h9) rfl (v := .int (nI (sSz h p))) (congrArg Value.int hWp.2.2.1) dX6_addStep_66 ?_
      refine lv_bipush (v := 8) hx hb dX6_addStep_69 (by decide) ?_
      refine lv_icmp_lt (tgt := 84) hx hb dX6_addStep_71 (by decide) (fun _ => ?_) (fun q_ => absurd ((nI_ltI (a := (sSz h p)) (b := 8) (by omega) (by omega)).mpr (by omega)) q_)
      refine lv_aload hx hb dX6_addStep_84 (lv_at hl 0 rfl) ?_
      refine x_new (C := RX5) (T := TX5) (N := 7) (ci := 5) hx hb hts iu5 tyX5 tyX5_ok hown (hts _ tw301) (hts _ tw302) (hts _ tw17) hK hH hS [7, p, sSz h p] (by first | (simp [xD]; done) | (simp [xD]; omega)) (by omega) rfl (by decide) rfl (df5 _) (Nat.le_of_ble_eq_true rfl) (Nat.le_of_ble_eq_true rfl) dX6_addStep_86 (fun H hH hS => ?_)
      obtain ⟨I4_, hI4_⟩ : ∃ z, z = upR I [7, p, sSz h p] (fun _ => (0 : Int32)) := ⟨_, rfl⟩
      obtain ⟨F4_, hF4_⟩ : ∃ z, z = upR (xFh h) [7, p, sSz h p] (fun _ => (none : Option (List Nat))) := ⟨_, rfl⟩
      rw [← hI4_, ← hF4_] at hH
      refine lv_dup hx hb dX6_addStep_89 rfl ?_
      refine lv_iload_n hx hb dX6_addStep_90 rfl (lv_at hl 3 rfl) ?_
      refine lv_iload_n hx hb dX6_addStep_91 rfl (lv_at hl 4 rfl) ?_
      refine x_I0 hx hb hml hown hE hS hl.1 cyX5_init tw303 (c_X5_init l g (fun i => i = [7, p, sSz h p] ∨ (xD h) i) I4_ F4_ ((n + 1)) p (sSz h p) kd (nI q) hs hf (Or.inl rfl) (by first | (rw [hI4_]; simp [upR]) | simp [upR]) (by first | (rw [hF4_]; simp [upR, up]) | simp [upR]) (by first | (simp [xD]; done) | (simp [xD]; omega)) (by omega) (by first | (simp [xD]; done) | (simp [xD]; omega)) (by omega) (by first | (simp [xD]; done) | (simp [xD]; omega)) (by omega) (by first | (simp [xD]; done) | (simp [xD]; omega)) (by omega)) ⟨Nat.le_of_ble_eq_true rfl, Nat.le_of_ble_eq_true rfl⟩ ⟨Nat.le_of_ble_eq_true rfl, Nat.le_of_ble_eq_true rfl⟩ hH rfl rfl (Nat.le_of_ble_eq_true rfl) dX6_addStep_92 (fun H locs hH hS => ?_)
      obtain ⟨I5_, hI5_⟩ : ∃ z, z = (upR (upR (upR (upR (upR I4_ [7, p, sSz h p] (rS kd (nI q))) [8, p, sSz h p, 0] r0) [9, p, sSz h p, 0] r0) [8, p, sSz h p, 1] r0) [9, p, sSz h p, 1] r0) := ⟨_, rfl⟩
      obtain ⟨F5_, hF5_⟩ : ∃ z, z = (upR (upR (upR (upR (upR F4_ [7, p, sSz h p] (qS p (sSz h p))) [8, p, sSz h p, 0] (q1 0 [9, p, sSz h p, 0])) [9, p, sSz h p, 0] q0) [8, p, sSz h p, 1] (q1 0 [9, p, sSz h p, 1])) [9, p, sSz h p, 1] q0) := ⟨_, rfl⟩
      rw [← hI5_, ← hF5_] at hH
      refine x_V1 hx hb hml hown hE hS hl.1 cyX4_append tw360 (c_X4_append l g (fun i => i = [9, p, sSz h p, 1] ∨ (fun i => i = [8, p, sSz h p, 1] ∨ (fun i => i = [9, p, sSz h p, 0] ∨ (fun i => i = [8, p, sSz h p, 0] ∨ (fun i => i = [7, p, sSz h p] ∨ (xD h) i) i) i) i) i) I5_ F5_ (((((n + 1) + 1) + 1) + 1) + 1) p (sSz h p) (Or.inr (Or.inr (Or.inr (Or.inr (Or.inr ((show xD h [5, p] from by first | trivial | (simp only [xD]; omega) | (simp [xD]; done)))))))) (Or.inr (Or.inr (Or.inr (Or.inr (Or.inr ((show xD h [6, p] from by first | trivial | (simp only [xD]; omega) | (simp [xD]; done)))))))) (Or.inr (Or.inr (Or.inr (Or.inr (Or.inl rfl))))) (by rw [hF5_, hF4_]; simp [upR, xFh]) (by rw [hI5_, hI4_]; simp [upR, hWp.2.2.1]) h8) ⟨Nat.le_of_ble_eq_true rfl, Nat.le_of_ble_eq_true rfl⟩ ⟨Nat.le_of_ble_eq_true rfl, Nat.le_of_ble_eq_true rfl⟩ (x_recv hK hH (id := [5, p]) (Or.inr (Or.inr (Or.inr (Or.inr (Or.inr ((show xD h [5, p] from by first | trivial | (simp only [xD]; omega) | (simp [xD]; done)))))))) (ci := 4) rfl (by decide) rfl) hH rfl rfl (Nat.le_of_ble_eq_true rfl) dX6_addStep_95 (fun H locs hH hS => ?_)
      obtain ⟨I6_, hI6_⟩ : ∃ z, z = up I5_ [5, p] 2 (nI (sSz h p + 1)) := ⟨_, rfl⟩
      obtain ⟨F6_, hF6_⟩ : ∃ z, z = up F5_ [6, p] (sSz h p) (some [7, p, sSz h p]) := ⟨_, rfl⟩
      rw [← hI6_, ← hF6_] at hH
      exact x_iret hx hb hr hlocks hS dX6_addStep_98 rfl (hH.congr (g' := g) (fun i hi => xD_St h p hpp h8 hi) (fun i _ => by rw [hI6_, hI5_, hI4_]; (try simp only [upR_upR]); rfl) (fun i hi => by rw [hF6_, hF5_, hF4_]; (try simp only [upR_upR]); exact xF_St h p hpp h8 i hi))
    · skip
      refine lv_iload_n hx hb dX6_addStep_19 rfl (lv_at hl 3 rfl) ?_
      refine lv_bipush (v := 109) hx hb dX6_addStep_20 (by decide) ?_
      refine lv_icmp_eq (tgt := 35) hx hb dX6_addStep_22 (by decide) (fun _ => ?_) (fun q_ => absurd ((hkd.resolve_left c_10).resolve_left c_16) q_)
      refine lv_iload_n hx hb dX6_addStep_35 rfl (lv_at hl 4 rfl) ?_
      refine lv_iconst (v := (-1)) hx hb dX6_addStep_36 (by decide) ?_
      refine lv_icmp_eq (tgt := 59) hx hb dX6_addStep_37 (by decide) (fun q_ => absurd q_ (nI_m1 (by omega))) (fun _ => ?_)
      refine lv_aload hx hb dX6_addStep_40 (lv_at hl 0 rfl) ?_
      refine lv_iload_n hx hb dX6_addStep_42 rfl (lv_at hl 4 rfl) ?_
      refine x_V1 hx hb hml hown hE hS hl.1 cyX4_isStage tw287 (c_X4_isStage l g h I n p q hpp hq (by omega) hWp.2.2.1) ⟨Nat.le_of_ble_eq_true rfl, Nat.le_of_ble_eq_true rfl⟩ ⟨Nat.le_of_ble_eq_true rfl, Nat.le_of_ble_eq_true rfl⟩ (x_recv hK hH (id := [5, p]) (by first | trivial | (simp only [xD]; omega) | (simp [xD]; done) | (simp [xD]; omega)) (ci := 4) rfl (by decide) rfl) hH rfl rfl (Nat.le_of_ble_eq_true rfl) dX6_addStep_43 (fun H locs hH hS => ?_)
      refine lv_if_ne (tgt := 59) hx hb dX6_addStep_46 (by decide) (fun _ => ?_) (fun q_ => absurd q_ (by rw [hq1]; decide))
      refine lv_aload hx hb dX6_addStep_59 (lv_at hl 0 rfl) ?_
      refine x_S0 hx hb hml hown hE hS hl.1 cyX6_refuseUsed tw296 (c_X6_refuseUsed l g h I n p hpp hu) ⟨Nat.le_of_ble_eq_true rfl, Nat.le_of_ble_eq_true rfl⟩ ⟨Nat.le_of_ble_eq_true rfl, Nat.le_of_ble_eq_true rfl⟩ hH rfl rfl (Nat.le_of_ble_eq_true rfl) dX6_addStep_61 (fun H locs hH hS => ?_)
      refine lv_aload hx hb dX6_addStep_64 (lv_at hl 0 rfl) ?_
      refine x_get (C := RX4) (T := TX4) (N := 4) (ci := 4) hx hb hts iu4 hown hK hH (id := [5, p]) (by first | trivial | (simp only [xD]; omega) | (simp [xD]; done) | (simp [xD]; omega)) rfl rfl (by decide) 2 (by decide) (hts _ tw73) (fun _ h9 => h9) rfl (v := .int (nI (sSz h p))) (congrArg Value.int hWp.2.2.1) dX6_addStep_66 ?_
      refine lv_bipush (v := 8) hx hb dX6_addStep_69 (by decide) ?_
      refine lv_icmp_lt (tgt := 84) hx hb dX6_addStep_71 (by decide) (fun _ => ?_) (fun q_ => absurd ((nI_ltI (a := (sSz h p)) (b := 8) (by omega) (by omega)).mpr (by omega)) q_)
      refine lv_aload hx hb dX6_addStep_84 (lv_at hl 0 rfl) ?_
      refine x_new (C := RX5) (T := TX5) (N := 7) (ci := 5) hx hb hts iu5 tyX5 tyX5_ok hown (hts _ tw301) (hts _ tw302) (hts _ tw17) hK hH hS [7, p, sSz h p] (by first | (simp [xD]; done) | (simp [xD]; omega)) (by omega) rfl (by decide) rfl (df5 _) (Nat.le_of_ble_eq_true rfl) (Nat.le_of_ble_eq_true rfl) dX6_addStep_86 (fun H hH hS => ?_)
      obtain ⟨I7_, hI7_⟩ : ∃ z, z = upR I [7, p, sSz h p] (fun _ => (0 : Int32)) := ⟨_, rfl⟩
      obtain ⟨F7_, hF7_⟩ : ∃ z, z = upR (xFh h) [7, p, sSz h p] (fun _ => (none : Option (List Nat))) := ⟨_, rfl⟩
      rw [← hI7_, ← hF7_] at hH
      refine lv_dup hx hb dX6_addStep_89 rfl ?_
      refine lv_iload_n hx hb dX6_addStep_90 rfl (lv_at hl 3 rfl) ?_
      refine lv_iload_n hx hb dX6_addStep_91 rfl (lv_at hl 4 rfl) ?_
      refine x_I0 hx hb hml hown hE hS hl.1 cyX5_init tw303 (c_X5_init l g (fun i => i = [7, p, sSz h p] ∨ (xD h) i) I7_ F7_ ((n + 1)) p (sSz h p) kd (nI q) hs hf (Or.inl rfl) (by first | (rw [hI7_]; simp [upR]) | simp [upR]) (by first | (rw [hF7_]; simp [upR, up]) | simp [upR]) (by first | (simp [xD]; done) | (simp [xD]; omega)) (by omega) (by first | (simp [xD]; done) | (simp [xD]; omega)) (by omega) (by first | (simp [xD]; done) | (simp [xD]; omega)) (by omega) (by first | (simp [xD]; done) | (simp [xD]; omega)) (by omega)) ⟨Nat.le_of_ble_eq_true rfl, Nat.le_of_ble_eq_true rfl⟩ ⟨Nat.le_of_ble_eq_true rfl, Nat.le_of_ble_eq_true rfl⟩ hH rfl rfl (Nat.le_of_ble_eq_true rfl) dX6_addStep_92 (fun H locs hH hS => ?_)
      obtain ⟨I8_, hI8_⟩ : ∃ z, z = (upR (upR (upR (upR (upR I7_ [7, p, sSz h p] (rS kd (nI q))) [8, p, sSz h p, 0] r0) [9, p, sSz h p, 0] r0) [8, p, sSz h p, 1] r0) [9, p, sSz h p, 1] r0) := ⟨_, rfl⟩
      obtain ⟨F8_, hF8_⟩ : ∃ z, z = (upR (upR (upR (upR (upR F7_ [7, p, sSz h p] (qS p (sSz h p))) [8, p, sSz h p, 0] (q1 0 [9, p, sSz h p, 0])) [9, p, sSz h p, 0] q0) [8, p, sSz h p, 1] (q1 0 [9, p, sSz h p, 1])) [9, p, sSz h p, 1] q0) := ⟨_, rfl⟩
      rw [← hI8_, ← hF8_] at hH
      refine x_V1 hx hb hml hown hE hS hl.1 cyX4_append tw360 (c_X4_append l g (fun i => i = [9, p, sSz h p, 1] ∨ (fun i => i = [8, p, sSz h p, 1] ∨ (fun i => i = [9, p, sSz h p, 0] ∨ (fun i => i = [8, p, sSz h p, 0] ∨ (fun i => i = [7, p, sSz h p] ∨ (xD h) i) i) i) i) i) I8_ F8_ (((((n + 1) + 1) + 1) + 1) + 1) p (sSz h p) (Or.inr (Or.inr (Or.inr (Or.inr (Or.inr ((show xD h [5, p] from by first | trivial | (simp only [xD]; omega) | (simp [xD]; done)))))))) (Or.inr (Or.inr (Or.inr (Or.inr (Or.inr ((show xD h [6, p] from by first | trivial | (simp only [xD]; omega) | (simp [xD]; done)))))))) (Or.inr (Or.inr (Or.inr (Or.inr (Or.inl rfl))))) (by rw [hF8_, hF7_]; simp [upR, xFh]) (by rw [hI8_, hI7_]; simp [upR, hWp.2.2.1]) h8) ⟨Nat.le_of_ble_eq_true rfl, Nat.le_of_ble_eq_true rfl⟩ ⟨Nat.le_of_ble_eq_true rfl, Nat.le_of_ble_eq_true rfl⟩ (x_recv hK hH (id := [5, p]) (Or.inr (Or.inr (Or.inr (Or.inr (Or.inr ((show xD h [5, p] from by first | trivial | (simp only [xD]; omega) | (simp [xD]; done)))))))) (ci := 4) rfl (by decide) rfl) hH rfl rfl (Nat.le_of_ble_eq_true rfl) dX6_addStep_95 (fun H locs hH hS => ?_)
      obtain ⟨I9_, hI9_⟩ : ∃ z, z = up I8_ [5, p] 2 (nI (sSz h p + 1)) := ⟨_, rfl⟩
      obtain ⟨F9_, hF9_⟩ : ∃ z, z = up F8_ [6, p] (sSz h p) (some [7, p, sSz h p]) := ⟨_, rfl⟩
      rw [← hI9_, ← hF9_] at hH
      exact x_iret hx hb hr hlocks hS dX6_addStep_98 rfl (hH.congr (g' := g) (fun i hi => xD_St h p hpp h8 hi) (fun i _ => by rw [hI9_, hI8_, hI7_]; (try simp only [upR_upR]); rfl) (fun i hi => by rw [hF9_, hF8_, hF7_]; (try simp only [upR_upR]); exact xF_St h p hpp h8 i hi))

set_option maxHeartbeats 1000000 in
set_option maxRecDepth 100000 in
theorem c_X6_addEntry (l : Launch) (g : xG) (h : xS) (I : xI) (n : Nat) (hW : xWs0 h I) (p : Nat) (hpp : p < sNp h) (j : Nat) (hj : j < sSz h p) (hu : I [5, p] 3 = 0) (h3c : sCn h p j 0 < 3) (so a b : Int32) (hc : sCond (sSz h p) so a b = true) (hs : narrow .char (.int so) = .int so) (hf : fits .char (.int so) = true) (ha0 : ga g [10, p, j, 0, sCn h p j 0] = n) : xM l yX6_addEntry (xws yX6_addEntry cX6_addEntry 8 (some FieldType.int)) 4 79 g [.ref (ga g [0]), .int (nI p), .int (nI j), .int so, .int a, .int b] (xR g (xD h) I (xFh h) n) (some (.int (nI (sCn h p j 0 + 1)))) (xR g (xD (hCo h p j 0)) (iCo h I p j 0 so a b) (xFh (hCo h p j 0)) (n + 1)) 1 3 := by
  refine xM.of (by decide) (Nat.le_of_ble_eq_true rfl) ?_
  intro P_ e_ s m_ bl_ mt_ cd_ ls hx hb hr hown hlocks hml hnm hE hK hts hH hS hl
  have hl : lv_has ls 8 [(0, .ref (ga g [0])), (1, .int (nI p)), (2, .int (nI j)), (3, .int so), (4, .int a), (5, .int b)] := hl
  have h3 := hW.1
  have hWp := hW.2.2 _ hpp
  have h8 := hWp.1
  have hWc := (hWp.2.2.2 j hj).2.2 0 (by decide)
  refine lv_aload_n hx hb dX6_addEntry_0 rfl (lv_at hl 0 rfl) ?_
  refine lv_iload_n hx hb dX6_addEntry_1 rfl (lv_at hl 1 rfl) ?_
  refine x_V1 hx hb hml hown hE hS hl.1 cyX6_existingPlan tw247 (c_X6_existingPlan l g h I n p hpp h3 hW.2.1) ⟨Nat.le_of_ble_eq_true rfl, Nat.le_of_ble_eq_true rfl⟩ ⟨Nat.le_of_ble_eq_true rfl, Nat.le_of_ble_eq_true rfl⟩ (x_recv hK hH (id := [0]) (by first | trivial | (simp only [xD]; omega) | (simp [xD]; done) | (simp [xD]; omega)) (ci := 6) rfl (by decide) rfl) hH rfl rfl (Nat.le_of_ble_eq_true rfl) dX6_addEntry_2 (fun H locs hH hS => ?_)
  refine lv_astore (lv' := [(6, .ref (ga g [5, p])), (0, .ref (ga g [0])), (1, .int (nI p)), (2, .int (nI j)), (3, .int so), (4, .int a), (5, .int b)]) hx hb dX6_addEntry_5 hl (by decide) rfl (fun ls hl => ?_)
  refine lv_aload hx hb dX6_addEntry_7 (lv_at hl 0 rfl) ?_
  refine lv_iload_n hx hb dX6_addEntry_9 rfl (lv_at hl 3 rfl) ?_
  refine x_S1 hx hb hml hown hE hS hl.1 cyX6_existingStep tw372 (c_X6_existingStep l g h I n p j hpp hj h8 hWp.2.2.1) ⟨Nat.le_of_ble_eq_true rfl, Nat.le_of_ble_eq_true rfl⟩ ⟨Nat.le_of_ble_eq_true rfl, Nat.le_of_ble_eq_true rfl⟩ hH rfl rfl (Nat.le_of_ble_eq_true rfl) dX6_addEntry_10 (fun H locs hH hS => ?_)
  refine lv_astore (lv' := [(7, .ref (ga g [7, p, j])), (6, .ref (ga g [5, p])), (0, .ref (ga g [0])), (1, .int (nI p)), (2, .int (nI j)), (3, .int so), (4, .int a), (5, .int b)]) hx hb dX6_addEntry_13 hl (by decide) rfl (fun ls hl => ?_)
  refine lv_aload hx hb dX6_addEntry_15 (lv_at hl 1 rfl) ?_
  refine lv_iload_n hx hb dX6_addEntry_17 rfl (lv_at hl 5 rfl) ?_
  refine lv_iload hx hb dX6_addEntry_18 (lv_at hl 6 rfl) ?_
  refine lv_iload hx hb dX6_addEntry_20 (lv_at hl 7 rfl) ?_
  refine x_S0 hx hb hml hown hE hS hl.1 cyX6_refuseWrongCondition tw377 (c_X6_refuseWrongCondition l g h I n p so a b hpp h8 hWp.2.2.1 hc) ⟨Nat.le_of_ble_eq_true rfl, Nat.le_of_ble_eq_true rfl⟩ ⟨Nat.le_of_ble_eq_true rfl, Nat.le_of_ble_eq_true rfl⟩ hH rfl rfl (Nat.le_of_ble_eq_true rfl) dX6_addEntry_22 (fun H locs hH hS => ?_)
  refine lv_aload hx hb dX6_addEntry_25 (lv_at hl 1 rfl) ?_
  refine x_S0 hx hb hml hown hE hS hl.1 cyX6_refuseUsed tw296 (c_X6_refuseUsed l g h I n p hpp hu) ⟨Nat.le_of_ble_eq_true rfl, Nat.le_of_ble_eq_true rfl⟩ ⟨Nat.le_of_ble_eq_true rfl, Nat.le_of_ble_eq_true rfl⟩ hH rfl rfl (Nat.le_of_ble_eq_true rfl) dX6_addEntry_27 (fun H locs hH hS => ?_)
  refine lv_aload hx hb dX6_addEntry_30 (lv_at hl 0 rfl) ?_
  refine x_get (C := RX5) (T := TX5) (N := 7) (ci := 5) hx hb hts iu5 hown hK hH (id := [7, p, j]) (by first | trivial | (simp only [xD]; omega) | (simp [xD]; done) | (simp [xD]; omega)) rfl rfl (by decide) 2 (by decide) (hts _ tw331) (fun _ h9 => h9) rfl (v := .ref (ga g [8, p, j, 0])) rfl dX6_addEntry_32 ?_
  refine x_S0 hx hb hml hown hE hS hl.1 cyX6_refuseFull tw393 (c_X6_refuseFull l g h I n p j 0 hpp hj (by decide) hWc.1 hWc.2.1 h3c) ⟨Nat.le_of_ble_eq_true rfl, Nat.le_of_ble_eq_true rfl⟩ ⟨Nat.le_of_ble_eq_true rfl, Nat.le_of_ble_eq_true rfl⟩ hH rfl rfl (Nat.le_of_ble_eq_true rfl) dX6_addEntry_35 (fun H locs hH hS => ?_)
  refine lv_aload hx hb dX6_addEntry_38 (lv_at hl 0 rfl) ?_
  refine x_get (C := RX5) (T := TX5) (N := 7) (ci := 5) hx hb hts iu5 hown hK hH (id := [7, p, j]) (by first | trivial | (simp only [xD]; omega) | (simp [xD]; done) | (simp [xD]; omega)) rfl rfl (by decide) 2 (by decide) (hts _ tw331) (fun _ h9 => h9) rfl (v := .ref (ga g [8, p, j, 0])) rfl dX6_addEntry_40 ?_
  refine x_new (C := RX1) (T := TX1) (N := 3) (ci := 1) hx hb hts iu1 tyX1 tyX1_ok hown (hts _ tw397) (hts _ tw398) (hts _ tw19) hK hH hS [10, p, j, 0, sCn h p j 0] (by first | (simp [xD]; done) | (simp [xD]; omega)) (by omega) rfl (by decide) rfl (df1 _) (Nat.le_of_ble_eq_true rfl) (Nat.le_of_ble_eq_true rfl) dX6_addEntry_43 (fun H hH hS => ?_)
  obtain ⟨I1_, hI1_⟩ : ∃ z, z = upR I [10, p, j, 0, sCn h p j 0] (fun _ => (0 : Int32)) := ⟨_, rfl⟩
  obtain ⟨F1_, hF1_⟩ : ∃ z, z = upR (xFh h) [10, p, j, 0, sCn h p j 0] (fun _ => (none : Option (List Nat))) := ⟨_, rfl⟩
  rw [← hI1_, ← hF1_] at hH
  refine lv_dup hx hb dX6_addEntry_46 rfl ?_
  refine lv_iload_n hx hb dX6_addEntry_47 rfl (lv_at hl 5 rfl) ?_
  refine lv_iload hx hb dX6_addEntry_48 (lv_at hl 6 rfl) ?_
  refine lv_iload hx hb dX6_addEntry_50 (lv_at hl 7 rfl) ?_
  refine x_I0 hx hb hml hown hE hS hl.1 cyX1_init tw399 (c_X1_init l g (fun i => i = [10, p, j, 0, sCn h p j 0] ∨ (xD h) i) I1_ F1_ ((n + 1)) p j 0 (sCn h p j 0) so a b hs hf (Or.inl rfl) (by first | (rw [hI1_]; simp [upR]) | simp [upR]) (by first | (rw [hF1_]; simp [upR, up]) | simp [upR])) ⟨Nat.le_of_ble_eq_true rfl, Nat.le_of_ble_eq_true rfl⟩ ⟨Nat.le_of_ble_eq_true rfl, Nat.le_of_ble_eq_true rfl⟩ hH rfl rfl (Nat.le_of_ble_eq_true rfl) dX6_addEntry_52 (fun H locs hH hS => ?_)
  obtain ⟨I2_, hI2_⟩ : ∃ z, z = (upR I1_ [10, p, j, 0, sCn h p j 0] (rC so a b)) := ⟨_, rfl⟩
  obtain ⟨F2_, hF2_⟩ : ∃ z, z = F1_ := ⟨_, rfl⟩
  rw [← hI2_, ← hF2_] at hH
  refine x_V1 hx hb hml hown hE hS hl.1 cyX2_append tw416 (c_X2_append l g (fun i => i = [10, p, j, 0, sCn h p j 0] ∨ (xD h) i) I2_ F2_ (n + 1) p j 0 (sCn h p j 0) (Or.inr ((show xD h [8, p, j, 0] from by first | trivial | (simp only [xD]; omega) | (simp [xD]; done)))) (Or.inr ((show xD h [9, p, j, 0] from by first | trivial | (simp only [xD]; omega) | (simp [xD]; done)))) (Or.inl rfl) (by rw [hF2_, hF1_]; simp [upR, xFh]) (by rw [hI2_, hI1_]; simp [upR, hWc.1]) h3c) ⟨Nat.le_of_ble_eq_true rfl, Nat.le_of_ble_eq_true rfl⟩ ⟨Nat.le_of_ble_eq_true rfl, Nat.le_of_ble_eq_true rfl⟩ (x_recv hK hH (id := [8, p, j, 0]) (Or.inr ((show xD h [8, p, j, 0] from by first | trivial | (simp only [xD]; omega) | (simp [xD]; done)))) (ci := 2) rfl (by decide) rfl) hH rfl rfl (Nat.le_of_ble_eq_true rfl) dX6_addEntry_55 (fun H locs hH hS => ?_)
  obtain ⟨I3_, hI3_⟩ : ∃ z, z = up I2_ [8, p, j, 0] 1 (nI (sCn h p j 0 + 1)) := ⟨_, rfl⟩
  obtain ⟨F3_, hF3_⟩ : ∃ z, z = up F2_ [9, p, j, 0] (sCn h p j 0) (some [10, p, j, 0, sCn h p j 0]) := ⟨_, rfl⟩
  rw [← hI3_, ← hF3_] at hH
  exact x_iret hx hb hr hlocks hS dX6_addEntry_58 rfl (hH.congr (g' := g) (fun i hi => xD_Co h p j 0 hpp hj (by decide) h3c hi) (fun i _ => by rw [hI3_, hI2_, hI1_]; (try simp only [upR_upR]); rfl) (fun i hi => by rw [hF3_, hF2_, hF1_]; (try simp only [upR_upR]); exact xF_Co h p j 0 hpp hj (by decide) h3c i hi))

set_option maxHeartbeats 1000000 in
set_option maxRecDepth 100000 in
theorem c_X6_addExit (l : Launch) (g : xG) (h : xS) (I : xI) (n : Nat) (hW : xWs0 h I) (p : Nat) (hpp : p < sNp h) (j : Nat) (hj : j < sSz h p) (hu : I [5, p] 3 = 0) (h3c : sCn h p j 1 < 3) (so a b : Int32) (hc : sCond (sSz h p) so a b = true) (hs : narrow .char (.int so) = .int so) (hf : fits .char (.int so) = true) (hk : ¬ I [7, p, j] 0 = 109) (ha0 : ga g [10, p, j, 1, sCn h p j 1] = n) : xM l yX6_addExit (xws yX6_addExit cX6_addExit 8 (some FieldType.int)) 4 79 g [.ref (ga g [0]), .int (nI p), .int (nI j), .int so, .int a, .int b] (xR g (xD h) I (xFh h) n) (some (.int (nI (sCn h p j 1 + 1)))) (xR g (xD (hCo h p j 1)) (iCo h I p j 1 so a b) (xFh (hCo h p j 1)) (n + 1)) 1 3 := by
  refine xM.of (by decide) (Nat.le_of_ble_eq_true rfl) ?_
  intro P_ e_ s m_ bl_ mt_ cd_ ls hx hb hr hown hlocks hml hnm hE hK hts hH hS hl
  have hl : lv_has ls 8 [(0, .ref (ga g [0])), (1, .int (nI p)), (2, .int (nI j)), (3, .int so), (4, .int a), (5, .int b)] := hl
  have h3 := hW.1
  have hWp := hW.2.2 _ hpp
  have h8 := hWp.1
  have hWc := (hWp.2.2.2 j hj).2.2 1 (by decide)
  refine lv_aload_n hx hb dX6_addExit_0 rfl (lv_at hl 0 rfl) ?_
  refine lv_iload_n hx hb dX6_addExit_1 rfl (lv_at hl 1 rfl) ?_
  refine x_V1 hx hb hml hown hE hS hl.1 cyX6_existingPlan tw247 (c_X6_existingPlan l g h I n p hpp h3 hW.2.1) ⟨Nat.le_of_ble_eq_true rfl, Nat.le_of_ble_eq_true rfl⟩ ⟨Nat.le_of_ble_eq_true rfl, Nat.le_of_ble_eq_true rfl⟩ (x_recv hK hH (id := [0]) (by first | trivial | (simp only [xD]; omega) | (simp [xD]; done) | (simp [xD]; omega)) (ci := 6) rfl (by decide) rfl) hH rfl rfl (Nat.le_of_ble_eq_true rfl) dX6_addExit_2 (fun H locs hH hS => ?_)
  refine lv_astore (lv' := [(6, .ref (ga g [5, p])), (0, .ref (ga g [0])), (1, .int (nI p)), (2, .int (nI j)), (3, .int so), (4, .int a), (5, .int b)]) hx hb dX6_addExit_5 hl (by decide) rfl (fun ls hl => ?_)
  refine lv_aload hx hb dX6_addExit_7 (lv_at hl 0 rfl) ?_
  refine lv_iload_n hx hb dX6_addExit_9 rfl (lv_at hl 3 rfl) ?_
  refine x_S1 hx hb hml hown hE hS hl.1 cyX6_existingStep tw372 (c_X6_existingStep l g h I n p j hpp hj h8 hWp.2.2.1) ⟨Nat.le_of_ble_eq_true rfl, Nat.le_of_ble_eq_true rfl⟩ ⟨Nat.le_of_ble_eq_true rfl, Nat.le_of_ble_eq_true rfl⟩ hH rfl rfl (Nat.le_of_ble_eq_true rfl) dX6_addExit_10 (fun H locs hH hS => ?_)
  refine lv_astore (lv' := [(7, .ref (ga g [7, p, j])), (6, .ref (ga g [5, p])), (0, .ref (ga g [0])), (1, .int (nI p)), (2, .int (nI j)), (3, .int so), (4, .int a), (5, .int b)]) hx hb dX6_addExit_13 hl (by decide) rfl (fun ls hl => ?_)
  refine lv_aload hx hb dX6_addExit_15 (lv_at hl 1 rfl) ?_
  refine lv_iload_n hx hb dX6_addExit_17 rfl (lv_at hl 5 rfl) ?_
  refine lv_iload hx hb dX6_addExit_18 (lv_at hl 6 rfl) ?_
  refine lv_iload hx hb dX6_addExit_20 (lv_at hl 7 rfl) ?_
  refine x_S0 hx hb hml hown hE hS hl.1 cyX6_refuseWrongCondition tw377 (c_X6_refuseWrongCondition l g h I n p so a b hpp h8 hWp.2.2.1 hc) ⟨Nat.le_of_ble_eq_true rfl, Nat.le_of_ble_eq_true rfl⟩ ⟨Nat.le_of_ble_eq_true rfl, Nat.le_of_ble_eq_true rfl⟩ hH rfl rfl (Nat.le_of_ble_eq_true rfl) dX6_addExit_22 (fun H locs hH hS => ?_)
  refine lv_aload hx hb dX6_addExit_25 (lv_at hl 0 rfl) ?_
  refine x_get (C := RX5) (T := TX5) (N := 7) (ci := 5) hx hb hts iu5 hown hK hH (id := [7, p, j]) (by first | trivial | (simp only [xD]; omega) | (simp [xD]; done) | (simp [xD]; omega)) rfl rfl (by decide) 0 (by decide) (hts _ tw326) (fun _ h9 => h9) rfl (v := .int (I [7, p, j] 0)) rfl dX6_addExit_27 ?_
  refine lv_bipush (v := 109) hx hb dX6_addExit_30 (by decide) ?_
  refine lv_icmp_ne (tgt := 45) hx hb dX6_addExit_32 (by decide) (fun _ => ?_) (fun q_ => absurd q_ hk)
  refine lv_aload hx hb dX6_addExit_45 (lv_at hl 1 rfl) ?_
  refine x_S0 hx hb hml hown hE hS hl.1 cyX6_refuseUsed tw296 (c_X6_refuseUsed l g h I n p hpp hu) ⟨Nat.le_of_ble_eq_true rfl, Nat.le_of_ble_eq_true rfl⟩ ⟨Nat.le_of_ble_eq_true rfl, Nat.le_of_ble_eq_true rfl⟩ hH rfl rfl (Nat.le_of_ble_eq_true rfl) dX6_addExit_47 (fun H locs hH hS => ?_)
  refine lv_aload hx hb dX6_addExit_50 (lv_at hl 0 rfl) ?_
  refine x_get (C := RX5) (T := TX5) (N := 7) (ci := 5) hx hb hts iu5 hown hK hH (id := [7, p, j]) (by first | trivial | (simp only [xD]; omega) | (simp [xD]; done) | (simp [xD]; omega)) rfl rfl (by decide) 3 (by decide) (hts _ tw334) (fun _ h9 => h9) rfl (v := .ref (ga g [8, p, j, 1])) rfl dX6_addExit_52 ?_
  refine x_S0 hx hb hml hown hE hS hl.1 cyX6_refuseFull tw393 (c_X6_refuseFull l g h I n p j 1 hpp hj (by decide) hWc.1 hWc.2.1 h3c) ⟨Nat.le_of_ble_eq_true rfl, Nat.le_of_ble_eq_true rfl⟩ ⟨Nat.le_of_ble_eq_true rfl, Nat.le_of_ble_eq_true rfl⟩ hH rfl rfl (Nat.le_of_ble_eq_true rfl) dX6_addExit_55 (fun H locs hH hS => ?_)
  refine lv_aload hx hb dX6_addExit_58 (lv_at hl 0 rfl) ?_
  refine x_get (C := RX5) (T := TX5) (N := 7) (ci := 5) hx hb hts iu5 hown hK hH (id := [7, p, j]) (by first | trivial | (simp only [xD]; omega) | (simp [xD]; done) | (simp [xD]; omega)) rfl rfl (by decide) 3 (by decide) (hts _ tw334) (fun _ h9 => h9) rfl (v := .ref (ga g [8, p, j, 1])) rfl dX6_addExit_60 ?_
  refine x_new (C := RX1) (T := TX1) (N := 3) (ci := 1) hx hb hts iu1 tyX1 tyX1_ok hown (hts _ tw397) (hts _ tw398) (hts _ tw19) hK hH hS [10, p, j, 1, sCn h p j 1] (by first | (simp [xD]; done) | (simp [xD]; omega)) (by omega) rfl (by decide) rfl (df1 _) (Nat.le_of_ble_eq_true rfl) (Nat.le_of_ble_eq_true rfl) dX6_addExit_63 (fun H hH hS => ?_)
  obtain ⟨I1_, hI1_⟩ : ∃ z, z = upR I [10, p, j, 1, sCn h p j 1] (fun _ => (0 : Int32)) := ⟨_, rfl⟩
  obtain ⟨F1_, hF1_⟩ : ∃ z, z = upR (xFh h) [10, p, j, 1, sCn h p j 1] (fun _ => (none : Option (List Nat))) := ⟨_, rfl⟩
  rw [← hI1_, ← hF1_] at hH
  refine lv_dup hx hb dX6_addExit_66 rfl ?_
  refine lv_iload_n hx hb dX6_addExit_67 rfl (lv_at hl 5 rfl) ?_
  refine lv_iload hx hb dX6_addExit_68 (lv_at hl 6 rfl) ?_
  refine lv_iload hx hb dX6_addExit_70 (lv_at hl 7 rfl) ?_
  refine x_I0 hx hb hml hown hE hS hl.1 cyX1_init tw399 (c_X1_init l g (fun i => i = [10, p, j, 1, sCn h p j 1] ∨ (xD h) i) I1_ F1_ ((n + 1)) p j 1 (sCn h p j 1) so a b hs hf (Or.inl rfl) (by first | (rw [hI1_]; simp [upR]) | simp [upR]) (by first | (rw [hF1_]; simp [upR, up]) | simp [upR])) ⟨Nat.le_of_ble_eq_true rfl, Nat.le_of_ble_eq_true rfl⟩ ⟨Nat.le_of_ble_eq_true rfl, Nat.le_of_ble_eq_true rfl⟩ hH rfl rfl (Nat.le_of_ble_eq_true rfl) dX6_addExit_72 (fun H locs hH hS => ?_)
  obtain ⟨I2_, hI2_⟩ : ∃ z, z = (upR I1_ [10, p, j, 1, sCn h p j 1] (rC so a b)) := ⟨_, rfl⟩
  obtain ⟨F2_, hF2_⟩ : ∃ z, z = F1_ := ⟨_, rfl⟩
  rw [← hI2_, ← hF2_] at hH
  refine x_V1 hx hb hml hown hE hS hl.1 cyX2_append tw416 (c_X2_append l g (fun i => i = [10, p, j, 1, sCn h p j 1] ∨ (xD h) i) I2_ F2_ (n + 1) p j 1 (sCn h p j 1) (Or.inr ((show xD h [8, p, j, 1] from by first | trivial | (simp only [xD]; omega) | (simp [xD]; done)))) (Or.inr ((show xD h [9, p, j, 1] from by first | trivial | (simp only [xD]; omega) | (simp [xD]; done)))) (Or.inl rfl) (by rw [hF2_, hF1_]; simp [upR, xFh]) (by rw [hI2_, hI1_]; simp [upR, hWc.1]) h3c) ⟨Nat.le_of_ble_eq_true rfl, Nat.le_of_ble_eq_true rfl⟩ ⟨Nat.le_of_ble_eq_true rfl, Nat.le_of_ble_eq_true rfl⟩ (x_recv hK hH (id := [8, p, j, 1]) (Or.inr ((show xD h [8, p, j, 1] from by first | trivial | (simp only [xD]; omega) | (simp [xD]; done)))) (ci := 2) rfl (by decide) rfl) hH rfl rfl (Nat.le_of_ble_eq_true rfl) dX6_addExit_75 (fun H locs hH hS => ?_)
  obtain ⟨I3_, hI3_⟩ : ∃ z, z = up I2_ [8, p, j, 1] 1 (nI (sCn h p j 1 + 1)) := ⟨_, rfl⟩
  obtain ⟨F3_, hF3_⟩ : ∃ z, z = up F2_ [9, p, j, 1] (sCn h p j 1) (some [10, p, j, 1, sCn h p j 1]) := ⟨_, rfl⟩
  rw [← hI3_, ← hF3_] at hH
  exact x_iret hx hb hr hlocks hS dX6_addExit_78 rfl (hH.congr (g' := g) (fun i hi => xD_Co h p j 1 hpp hj (by decide) h3c hi) (fun i _ => by rw [hI3_, hI2_, hI1_]; (try simp only [upR_upR]); rfl) (fun i hi => by rw [hF3_, hF2_, hF1_]; (try simp only [upR_upR]); exact xF_Co h p j 1 hpp hj (by decide) h3c i hi))

theorem iBe_ne (h : xS) (I : xI) (p : Nat) {i : List Nat} (h0 : i ≠ [0]) (h5 : i ≠ [5, p]) (h11 : ∀ f, i ≠ [11, sNc h, f]) : iBe h I p i = I i := by
  unfold iBe
  rw [up_id h5, up_id h0]
  simp only [upR_id (h11 _)]
theorem xWs0.be {h : xS} {I : xI} (hW : xWs0 h I) (p : Nat) : xWs0 (hBe h p) (iBe h I p) := by
  obtain ⟨h3, hz, hp⟩ := hW
  have hn : ∀ i, i ≠ [0] → i ≠ [5, p] → (∀ f, i ≠ [11, sNc h, f]) → iBe h I p i = I i := fun i => iBe_ne h I p
  refine ⟨h3, (by show _ = nI (sNp h); rw [← hz]; simp [iBe, up, upR]), fun q hq => ?_⟩
  obtain ⟨a, b, c, d⟩ := hp q hq
  refine ⟨a, by rw [← b]; simp [iBe, up, upR], (by show _ = nI (sSz h q); rw [← c]; simp [iBe, up, upR]), fun j hj => ?_⟩
  obtain ⟨d1, d2, d3⟩ := d j hj
  have e7 : ∀ x y, iBe h I p [7, x, y] = I [7, x, y] := fun x y => hn _ (by simp) (by simp) (by simp)
  have e8 : ∀ x y z, iBe h I p [8, x, y, z] = I [8, x, y, z] := fun x y z => hn _ (by simp) (by simp) (by simp)
  have e10 : ∀ x y z w, iBe h I p [10, x, y, z, w] = I [10, x, y, z, w] := fun x y z w => hn _ (by simp) (by simp) (by simp)
  unfold xWs
  simp only [e7, e8, e10]
  exact ⟨d1, d2, d3⟩
theorem iBe_ch (h : xS) (I : xI) (p : Nat) : xCh (gX (iBe h I p) (sNc h)) := by
  intro k
  have : gX (iBe h I p) (sNc h) 2 = r0 := by funext q; simp [gX, iBe, up, upR]
  rw [this]; rfl
set_option maxHeartbeats 1000000 in
set_option maxRecDepth 100000 in
theorem c_X6_begin (l : Launch) (g : xG) (h : xS) (I : xI) (n : Nat) (hW : xWs0 h I) (hC : xWc h I) (p : Nat) (hpp : p < sNp h) (hs0 : ¬ sSz h p = 0) (h4 : sNc h < 4) (jn : Nat) (hjn : jn < 512) (hj3 : I [3] 4 = nI jn) (ha0 : ga g [11, sNc h, 0] = n) (ha1 : ga g [11, sNc h, 1] = n + 1) (ha2 : ga g [11, sNc h, 2] = n + 2) (ha3 : ga g [11, sNc h, 3] = n + 3) (ha4 : ga g [11, sNc h, 4] = n + 4) (ha5 : ga g [11, sNc h, 5] = n + 5) : xM l yX6_begin (xws yX6_begin cX6_begin 5 (some FieldType.int)) 7 154 g [.ref (ga g [0]), .int (nI p)] (xR g (xD h) I (xFh h) n) (some (.int (nI (sNc h)))) (xR g (xD (hBe h p)) (kI (hBe h p) (iBe h I p) jn (sNc h) 0 (nI p) 0 (gX (iBe h I p) (sNc h))) (xFh (hBe h p)) (n + 1 + 1 + 1 + 1 + 1 + 1)) 6 47 := by
  refine xM.of (by decide) (Nat.le_of_ble_eq_true rfl) ?_
  intro P_ e_ s m_ bl_ mt_ cd_ ls hx hb hr hown hlocks hml hnm hE hK hts hH hS hl
  have hl : lv_has ls 5 [(0, .ref (ga g [0])), (1, .int (nI p))] := hl
  have h3 := hW.1
  have hWp := hW.2.2 _ hpp
  have h8 := hWp.1
  have hz3 := hC.2.1
  have hz : iBe h I p [3] 4 = nI jn := by rw [iBe_ne h I p (by simp) (by simp) (by simp)]; exact hj3
  refine lv_aload_n hx hb dX6_begin_0 rfl (lv_at hl 0 rfl) ?_
  refine lv_iload_n hx hb dX6_begin_1 rfl (lv_at hl 1 rfl) ?_
  refine x_V1 hx hb hml hown hE hS hl.1 cyX6_existingPlan tw247 (c_X6_existingPlan l g h I n p hpp h3 hW.2.1) ⟨Nat.le_of_ble_eq_true rfl, Nat.le_of_ble_eq_true rfl⟩ ⟨Nat.le_of_ble_eq_true rfl, Nat.le_of_ble_eq_true rfl⟩ (x_recv hK hH (id := [0]) (by first | trivial | (simp only [xD]; omega) | (simp [xD]; done) | (simp [xD]; omega)) (ci := 6) rfl (by decide) rfl) hH rfl rfl (Nat.le_of_ble_eq_true rfl) dX6_begin_2 (fun H locs hH hS => ?_)
  refine lv_astore_n (lv' := [(2, .ref (ga g [5, p])), (0, .ref (ga g [0])), (1, .int (nI p))]) hx hb dX6_begin_5 rfl hl (by decide) rfl (fun ls hl => ?_)
  refine lv_aload_n hx hb dX6_begin_6 rfl (lv_at hl 0 rfl) ?_
  refine x_get (C := RX4) (T := TX4) (N := 4) (ci := 4) hx hb hts iu4 hown hK hH (id := [5, p]) (by first | trivial | (simp only [xD]; omega) | (simp [xD]; done) | (simp [xD]; omega)) rfl rfl (by decide) 2 (by decide) (hts _ tw73) (fun _ h9 => h9) rfl (v := .int (nI (sSz h p))) (congrArg Value.int hWp.2.2.1) dX6_begin_7 ?_
  refine lv_if_ne (tgt := 23) hx hb dX6_begin_10 (by decide) (fun _ => ?_) (fun q_ => absurd q_ (fun z_ => absurd ((nI_eq (a := (sSz h p)) (b := 0) (by omega) (by omega)).mp z_) (by omega)))
  refine lv_aload_n hx hb dX6_begin_23 rfl (lv_at hl 1 rfl) ?_
  refine x_get (C := RX6) (T := TX6) (N := 6) (ci := 6) hx hb hts iu6 hown hK hH (id := [0]) (by first | trivial | (simp only [xD]; omega) | (simp [xD]; done) | (simp [xD]; omega)) rfl rfl (by decide) 3 (by decide) (hts _ tw134) (fun _ h9 => h9) rfl (v := .int (nI (sNc h))) (congrArg Value.int hz3) dX6_begin_24 ?_
  refine lv_if_lt (tgt := 38) hx hb dX6_begin_27 (by decide) (fun q_ => absurd q_ (fun z_ => absurd ((nI_ltI (a := (sNc h)) (b := 0) (by omega) (by omega)).mp z_) (by omega))) (fun _ => ?_)
  refine lv_aload_n hx hb dX6_begin_30 rfl (lv_at hl 1 rfl) ?_
  refine x_get (C := RX6) (T := TX6) (N := 6) (ci := 6) hx hb hts iu6 hown hK hH (id := [0]) (by first | trivial | (simp only [xD]; omega) | (simp [xD]; done) | (simp [xD]; omega)) rfl rfl (by decide) 3 (by decide) (hts _ tw134) (fun _ h9 => h9) rfl (v := .int (nI (sNc h))) (congrArg Value.int hz3) dX6_begin_31 ?_
  refine lv_iconst (v := 4) hx hb dX6_begin_34 (by decide) ?_
  refine lv_icmp_lt (tgt := 48) hx hb dX6_begin_35 (by decide) (fun _ => ?_) (fun q_ => absurd ((nI_ltI (a := (sNc h)) (b := 4) (by omega) (by omega)).mpr (by omega)) q_)
  refine lv_aload_n hx hb dX6_begin_48 rfl (lv_at hl 1 rfl) ?_
  refine x_get (C := RX6) (T := TX6) (N := 6) (ci := 6) hx hb hts iu6 hown hK hH (id := [0]) (by first | trivial | (simp only [xD]; omega) | (simp [xD]; done) | (simp [xD]; omega)) rfl rfl (by decide) 3 (by decide) (hts _ tw134) (fun _ h9 => h9) rfl (v := .int (nI (sNc h))) (congrArg Value.int hz3) dX6_begin_49 ?_
  refine lv_istore_n (lv' := [(3, .int (nI (sNc h))), (2, .ref (ga g [5, p])), (0, .ref (ga g [0])), (1, .int (nI p))]) hx hb dX6_begin_52 rfl hl (by decide) rfl (fun ls hl => ?_)
  refine x_new (C := RX0) (T := TX0) (N := 11) (ci := 0) hx hb hts iu0 tyX0 tyX0_ok hown (hts _ tw31) (hts _ tw61) (hts _ tw3) hK hH hS [11, sNc h, 0] (by first | (simp [xD]; done) | (simp [xD]; omega)) (by omega) rfl (by decide) rfl (df0 _) (Nat.le_of_ble_eq_true rfl) (Nat.le_of_ble_eq_true rfl) dX6_begin_53 (fun H hH hS => ?_)
  obtain ⟨I1_, hI1_⟩ : ∃ z, z = upR I [11, sNc h, 0] (fun _ => (0 : Int32)) := ⟨_, rfl⟩
  obtain ⟨F1_, hF1_⟩ : ∃ z, z = upR (xFh h) [11, sNc h, 0] (fun _ => (none : Option (List Nat))) := ⟨_, rfl⟩
  rw [← hI1_, ← hF1_] at hH
  refine lv_dup hx hb dX6_begin_56 rfl ?_
  refine lv_aload_n hx hb dX6_begin_57 rfl (lv_at hl 1 rfl) ?_
  refine x_I0 hx hb hml hown hE hS hl.1 cyX0_init tw86 (c_X0_init l g (fun i => i = [11, sNc h, 0] ∨ (xD h) i) I1_ F1_ ((n + 1)) (sNc h) (by omega) p (Or.inr ((show xD h [5, p] from by first | trivial | (simp only [xD]; omega) | (simp [xD]; done)))) (Or.inl rfl) (by first | (rw [hI1_]; simp [upR]) | simp [upR]) (by first | (rw [hF1_]; simp [upR, up]) | simp [upR]) (by first | (simp [xD]; done) | (simp [xD]; omega)) (by omega) (by first | (simp [xD]; done) | (simp [xD]; omega)) (by omega) (by first | (simp [xD]; done) | (simp [xD]; omega)) (by omega) (by first | (simp [xD]; done) | (simp [xD]; omega)) (by omega) (by first | (simp [xD]; done) | (simp [xD]; omega)) (by omega)) ⟨Nat.le_of_ble_eq_true rfl, Nat.le_of_ble_eq_true rfl⟩ ⟨Nat.le_of_ble_eq_true rfl, Nat.le_of_ble_eq_true rfl⟩ hH rfl rfl (Nat.le_of_ble_eq_true rfl) dX6_begin_58 (fun H locs hH hS => ?_)
  obtain ⟨I2_, hI2_⟩ : ∃ z, z = (upR (upR (upR (upR (upR (upR I1_ [11, sNc h, 0] rK) [11, sNc h, 1] r0) [11, sNc h, 2] r0) [11, sNc h, 3] r0) [11, sNc h, 4] r0) [11, sNc h, 5] r0) := ⟨_, rfl⟩
  obtain ⟨F2_, hF2_⟩ : ∃ z, z = (upR (upR (upR (upR (upR (upR F1_ [11, sNc h, 0] (qK (sNc h) [5, p])) [11, sNc h, 1] q0) [11, sNc h, 2] q0) [11, sNc h, 3] q0) [11, sNc h, 4] q0) [11, sNc h, 5] q0) := ⟨_, rfl⟩
  rw [← hI2_, ← hF2_] at hH
  refine lv_astore (lv' := [(4, .ref (ga g [11, sNc h, 0])), (3, .int (nI (sNc h))), (2, .ref (ga g [5, p])), (0, .ref (ga g [0])), (1, .int (nI p))]) hx hb dX6_begin_61 hl (by decide) rfl (fun ls hl => ?_)
  refine lv_aload_n hx hb dX6_begin_63 rfl (lv_at hl 3 rfl) ?_
  refine x_get (C := RX6) (T := TX6) (N := 6) (ci := 6) hx hb hts iu6 hown hK hH (id := [0]) (Or.inr (Or.inr (Or.inr (Or.inr (Or.inr (Or.inr ((show xD h [0] from by first | trivial | (simp only [xD]; omega) | (simp [xD]; done))))))))) rfl rfl (by decide) 2 (by decide) (hts _ tw133) (fun _ h9 => h9) rfl (v := .ref (ga g [2])) (by show rq (ga g) (F2_ [0] 2) = _; rw [hF2_, hF1_]; simp [upR, xFh, rq]; rfl) dX6_begin_64 ?_
  refine lv_iload_n hx hb dX6_begin_67 rfl (lv_at hl 1 rfl) ?_
  refine lv_aload hx hb dX6_begin_68 (lv_at hl 0 rfl) ?_
  obtain ⟨F3_, hF3_⟩ : ∃ z, z = up F2_ [2] ((sNc h)) (some [11, sNc h, 0]) := ⟨_, rfl⟩
  refine x_aast hx hb hK hH hS (id := [2]) (Or.inr (Or.inr (Or.inr (Or.inr (Or.inr (Or.inr ((show xD h [2] from by first | trivial | (simp only [xD]; omega) | (simp [xD]; done))))))))) 4 (L := 4) rfl (by decide) (id2 := [11, sNc h, 0]) (Or.inr (Or.inr (Or.inr (Or.inr (Or.inr (Or.inl rfl)))))) (ci := 0) rfl (by decide) rfl rfl ((sNc h)) rfl (by omega) (by decide) hF3_.symm dX6_begin_70 (fun H locs hH hS => ?_)
  refine lv_aload_n hx hb dX6_begin_71 rfl (lv_at hl 3 rfl) ?_
  refine lv_iload_n hx hb dX6_begin_72 rfl (lv_at hl 1 rfl) ?_
  refine lv_iconst (v := 1) hx hb dX6_begin_73 (by decide) ?_
  refine lv_iadd hx hb dX6_begin_74 ?_
  rw [show ((nI (sNc h)) + 1) = (nI (sNc h + 1)) from (nI_1 _)]
  obtain ⟨I4_, hI4_⟩ : ∃ z, z = up I2_ [0] 3 (nI (sNc h + 1)) := ⟨_, rfl⟩
  refine x_put (C := RX6) (T := TX6) (N := 6) (ci := 6) hx hb hts iu6 tyX6 tyX6_ok nmX6 hown hK hH hS (id := [0]) (Or.inr (Or.inr (Or.inr (Or.inr (Or.inr (Or.inr ((show xD h [0] from by first | trivial | (simp only [xD]; omega) | (simp [xD]; done))))))))) rfl rfl (by decide) 3 (by decide) (hts _ tw134) (fun _ h9 => h9) (Or.inl rfl) (ty := .int) (v := .int (nI (sNc h + 1))) (by decide +kernel) rfl rfl (I' := I4_) (F' := F3_) (fun i hi => by rw [hI4_]; exact up_id hi) (fun _ _ => rfl) (fun j9 => by rw [hI4_, up_row]; exact xv_upd (ci := 6) (k := 3) rfl j9) dX6_begin_75 (fun H locs hH hS => ?_)
  refine lv_aload_n hx hb dX6_begin_78 rfl (lv_at hl 2 rfl) ?_
  refine lv_iconst (v := 1) hx hb dX6_begin_79 (by decide) ?_
  obtain ⟨I5_, hI5_⟩ : ∃ z, z = up I4_ [5, p] 3 1 := ⟨_, rfl⟩
  refine x_put (C := RX4) (T := TX4) (N := 4) (ci := 4) hx hb hts iu4 tyX4 tyX4_ok nmX4 hown hK hH hS (id := [5, p]) (Or.inr (Or.inr (Or.inr (Or.inr (Or.inr (Or.inr ((show xD h [5, p] from by first | trivial | (simp only [xD]; omega) | (simp [xD]; done))))))))) rfl rfl (by decide) 3 (by decide) (hts _ tw76) (fun _ h9 => h9) (Or.inl rfl) (ty := .boolean) (v := .int 1) (by decide +kernel) rfl rfl (I' := I5_) (F' := F3_) (fun i hi => by rw [hI5_]; exact up_id hi) (fun _ _ => rfl) (fun j9 => by rw [hI5_, up_row]; exact xv_upd (ci := 4) (k := 3) rfl j9) dX6_begin_80 (fun H locs hH hS => ?_)
  refine lv_aload_n hx hb dX6_begin_83 rfl (lv_at hl 3 rfl) ?_
  refine lv_iload_n hx hb dX6_begin_84 rfl (lv_at hl 1 rfl) ?_
  refine lv_aload hx hb dX6_begin_85 (lv_at hl 0 rfl) ?_
  refine lv_iconst (v := 0) hx hb dX6_begin_87 (by decide) ?_
  refine lv_iload_n hx hb dX6_begin_88 rfl (lv_at hl 4 rfl) ?_
  refine lv_iconst (v := 0) hx hb dX6_begin_89 (by decide) ?_
  replace hH := hH.congr (g' := g) (I' := sX (iBe h I p) (sNc h) (gX (iBe h I p) (sNc h))) (F' := xFh (hBe h p)) (fun i hi => xD_Be h p hpp h4 hi) (fun i _ => by rw [sX_get, hI5_, hI4_, hI2_, hI1_]; (try simp only [upR_upR]); rfl) (fun i hi => by rw [hF3_, hF2_, hF1_]; (try simp only [upR_upR]); exact xF_Be h p hpp h4 i hi)
  refine x_V0 hx hb hml hown hE hS hl.1 cyX6_noteAndDo tw484 (c_X6_noteAndDo l g (hBe h p) (iBe h I p) ((((((n + 1) + 1) + 1) + 1) + 1) + 1) (sNc h) (gX (iBe h I p) (sNc h)) (Or.inl (Nat.lt_succ_self _)) p (if_pos rfl) (hW.be p) 0 (by decide) (nI (sNc h)) 0 (nI p) 0 rfl ⟨p, hpp, rfl⟩ (iBe_ch h I p) jn hjn hz) ⟨Nat.le_of_ble_eq_true rfl, Nat.le_of_ble_eq_true rfl⟩ ⟨Nat.le_of_ble_eq_true rfl, Nat.le_of_ble_eq_true rfl⟩ (x_recv hK hH (id := [0]) (by first | trivial | (simp only [xD]; omega) | (simp [xD]; done) | (simp [xD]; omega)) (ci := 6) rfl (by decide) rfl) hH rfl rfl (Nat.le_of_ble_eq_true rfl) dX6_begin_90 (fun H locs hH hS => ?_)
  rw [sHap_J, show hPl (hBe h p) (sNc h) (sHap (hBe h p) (iBe h I p) 0 (nI p) 0 (p, gX (iBe h I p) (sNc h))).1 = hBe h p from (congrArg (hPl (hBe h p) (sNc h)) (show _ = sPl (hBe h p) (sNc h) from (nI_clamp (by omega)).trans (if_pos rfl).symm)).trans (hPl_self _ _)] at hH
  refine lv_iload_n hx hb dX6_begin_93 rfl (lv_at hl 1 rfl) ?_
  exact x_iret hx hb hr hlocks hS dX6_begin_94 rfl (by unfold kI; rw [show sPl (hBe h p) (sNc h) = p from if_pos rfl]; exact hH)
