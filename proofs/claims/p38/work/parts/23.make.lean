/-! CONTRACTS: the constructors -/
theorem df0 (a : List Nat → Nat) : ∀ j, j < 11 → defaultValue (tyX0 j) = xv a (fun _ => 0) (fun _ => none) 0 j := fun j hj => match j, hj with
  | 0, _ => rfl
  | 1, _ => rfl
  | 2, _ => rfl
  | 3, _ => rfl
  | 4, _ => rfl
  | 5, _ => rfl
  | 6, _ => rfl
  | 7, _ => rfl
  | 8, _ => rfl
  | 9, _ => rfl
  | 10, _ => rfl
  | _ + 11, h => absurd h (by omega)
theorem df1 (a : List Nat → Nat) : ∀ j, j < 3 → defaultValue (tyX1 j) = xv a (fun _ => 0) (fun _ => none) 1 j := fun j hj => match j, hj with
  | 0, _ => rfl
  | 1, _ => rfl
  | 2, _ => rfl
  | _ + 3, h => absurd h (by omega)
theorem df2 (a : List Nat → Nat) : ∀ j, j < 2 → defaultValue (tyX2 j) = xv a (fun _ => 0) (fun _ => none) 2 j := fun j hj => match j, hj with
  | 0, _ => rfl
  | 1, _ => rfl
  | _ + 2, h => absurd h (by omega)
theorem df3 (a : List Nat → Nat) : ∀ j, j < 5 → defaultValue (tyX3 j) = xv a (fun _ => 0) (fun _ => none) 3 j := fun j hj => match j, hj with
  | 0, _ => rfl
  | 1, _ => rfl
  | 2, _ => rfl
  | 3, _ => rfl
  | 4, _ => rfl
  | _ + 5, h => absurd h (by omega)
theorem df4 (a : List Nat → Nat) : ∀ j, j < 4 → defaultValue (tyX4 j) = xv a (fun _ => 0) (fun _ => none) 4 j := fun j hj => match j, hj with
  | 0, _ => rfl
  | 1, _ => rfl
  | 2, _ => rfl
  | 3, _ => rfl
  | _ + 4, h => absurd h (by omega)
theorem df5 (a : List Nat → Nat) : ∀ j, j < 7 → defaultValue (tyX5 j) = xv a (fun _ => 0) (fun _ => none) 5 j := fun j hj => match j, hj with
  | 0, _ => rfl
  | 1, _ => rfl
  | 2, _ => rfl
  | 3, _ => rfl
  | 4, _ => rfl
  | 5, _ => rfl
  | 6, _ => rfl
  | _ + 7, h => absurd h (by omega)
theorem df6 (a : List Nat → Nat) : ∀ j, j < 6 → defaultValue (tyX6 j) = xv a (fun _ => 0) (fun _ => none) 6 j := fun j hj => match j, hj with
  | 0, _ => rfl
  | 1, _ => rfl
  | 2, _ => rfl
  | 3, _ => rfl
  | 4, _ => rfl
  | 5, _ => rfl
  | _ + 6, h => absurd h (by omega)
theorem df7 (a : List Nat → Nat) : ∀ j, j < 24 → defaultValue (tyX7 j) = xv a (fun _ => 0) (fun _ => none) 7 j := fun j hj => match j, hj with
  | 0, _ => rfl
  | 1, _ => rfl
  | 2, _ => rfl
  | 3, _ => rfl
  | 4, _ => rfl
  | 5, _ => rfl
  | 6, _ => rfl
  | 7, _ => rfl
  | 8, _ => rfl
  | 9, _ => rfl
  | 10, _ => rfl
  | 11, _ => rfl
  | 12, _ => rfl
  | 13, _ => rfl
  | 14, _ => rfl
  | 15, _ => rfl
  | 16, _ => rfl
  | 17, _ => rfl
  | 18, _ => rfl
  | 19, _ => rfl
  | 20, _ => rfl
  | 21, _ => rfl
  | 22, _ => rfl
  | 23, _ => rfl
  | _ + 24, h => absurd h (by omega)
/-- rows of new objects -/
def rC (s a b : Int32) : Nat → Int32 := fun k => if k = 2 then b else if k = 1 then a else if k = 0 then s else 0
def rS (kd pa : Int32) : Nat → Int32 := fun k => if k = 1 then pa else if k = 0 then kd else if k = 6 then 0 else if k = 5 then 10 else if k = 4 then 1 else 0
def rP (n : Int32) : Nat → Int32 := fun k => if k = 0 then n else 0
def rK : Nat → Int32 := fun k => if k = 10 then 0 else if k = 9 then 0 else if k = 8 then -1 else 0
def r0 : Nat → Int32 := fun _ => 0
def q0 : Nat → Option (List Nat) := fun _ => none
def q1 (k : Nat) (i : List Nat) : Nat → Option (List Nat) := fun q => if q = k then some i else none
def q2 (k : Nat) (i : List Nat) (k2 : Nat) (i2 : List Nat) : Nat → Option (List Nat) := fun q => if q = k then some i else if q = k2 then some i2 else none
set_option maxHeartbeats 1000000 in
set_option maxRecDepth 100000 in
theorem c_X1_init (l : Launch) (g : xG) (dm : List Nat → Prop) (I : xI) (F : xF) (n : Nat) (p j w k : Nat) (so a b : Int32) (hs : narrow .char (.int so) = .int so) (hf : fits .char (.int so) = true) (hd : dm [10, p, j, w, k]) (h0 : I [10, p, j, w, k] = fun _ => 0) (hz : F [10, p, j, w, k] = fun _ => none) : xM l yX1_init (xws yX1_init cX1_init 4 none) 1 12 g [.ref (ga g [10, p, j, w, k]), .int so, .int a, .int b] (xR g dm I F n) none (xR g dm (upR I [10, p, j, w, k] (rC so a b)) F n) 0 0 := by
  refine xM.of (by decide) (Nat.le_of_ble_eq_true rfl) ?_
  intro P_ e_ s m_ bl_ mt_ cd_ ls hx hb hr hown hlocks hml hnm hE hK hts hH hS hl
  have hl : lv_has ls 4 [(0, .ref (ga g [10, p, j, w, k])), (1, .int so), (2, .int a), (3, .int b)] := hl
  refine lv_aload_n hx hb dX1_init_0 rfl (lv_at hl 0 rfl) ?_
  refine W.objInit hx hb hown (hts _ tw402) (hts _ tw27) (hts _ tw28) rfl (hl.1.trans hml.symm) rfl dX1_init_1 (Nat.le_of_ble_eq_true rfl) (Nat.le_of_ble_eq_true rfl) ?_
  refine lv_aload_n hx hb dX1_init_4 rfl (lv_at hl 0 rfl) ?_
  refine lv_iload_n hx hb dX1_init_5 rfl (lv_at hl 1 rfl) ?_
  obtain ⟨I1_, hI1_⟩ : ∃ z, z = up I [10, p, j, w, k] 0 so := ⟨_, rfl⟩
  refine x_put (C := RX1) (T := TX1) (N := 3) (ci := 1) hx hb hts iu1 tyX1 tyX1_ok nmX1 hown hK hH hS (id := [10, p, j, w, k]) hd rfl rfl (by decide) 0 (by decide) (hts _ tw403) (fun _ h9 => h9) (Or.inr ⟨rfl, hnm, rfl⟩) (ty := .char) (v := .int so) (by decide +kernel) hs hf (I' := I1_) (F' := F) (fun i hi => by rw [hI1_]; exact up_id hi) (fun _ _ => rfl) (fun j9 => by rw [hI1_, up_row]; exact xv_upd (ci := 1) (k := 0) rfl j9) dX1_init_6 (fun H locs hH hS => ?_)
  refine lv_aload_n hx hb dX1_init_9 rfl (lv_at hl 0 rfl) ?_
  refine lv_iload_n hx hb dX1_init_10 rfl (lv_at hl 2 rfl) ?_
  obtain ⟨I2_, hI2_⟩ : ∃ z, z = up I1_ [10, p, j, w, k] 1 a := ⟨_, rfl⟩
  refine x_put (C := RX1) (T := TX1) (N := 3) (ci := 1) hx hb hts iu1 tyX1 tyX1_ok nmX1 hown hK hH hS (id := [10, p, j, w, k]) hd rfl rfl (by decide) 1 (by decide) (hts _ tw405) (fun _ h9 => h9) (Or.inr ⟨rfl, hnm, rfl⟩) (ty := .int) (v := .int a) (by decide +kernel) rfl rfl (I' := I2_) (F' := F) (fun i hi => by rw [hI2_]; exact up_id hi) (fun _ _ => rfl) (fun j9 => by rw [hI2_, up_row]; exact xv_upd (ci := 1) (k := 1) rfl j9) dX1_init_11 (fun H locs hH hS => ?_)
  refine lv_aload_n hx hb dX1_init_14 rfl (lv_at hl 0 rfl) ?_
  refine lv_iload_n hx hb dX1_init_15 rfl (lv_at hl 3 rfl) ?_
  obtain ⟨I3_, hI3_⟩ : ∃ z, z = up I2_ [10, p, j, w, k] 2 b := ⟨_, rfl⟩
  refine x_put (C := RX1) (T := TX1) (N := 3) (ci := 1) hx hb hts iu1 tyX1 tyX1_ok nmX1 hown hK hH hS (id := [10, p, j, w, k]) hd rfl rfl (by decide) 2 (by decide) (hts _ tw407) (fun _ h9 => h9) (Or.inr ⟨rfl, hnm, rfl⟩) (ty := .int) (v := .int b) (by decide +kernel) rfl rfl (I' := I3_) (F' := F) (fun i hi => by rw [hI3_]; exact up_id hi) (fun _ _ => rfl) (fun j9 => by rw [hI3_, up_row]; exact xv_upd (ci := 1) (k := 2) rfl j9) dX1_init_16 (fun H locs hH hS => ?_)
  exact x_vret hx hb hr hlocks hS dX1_init_19 (hH.congr (g' := g) (fun _ hi => hi) (fun i _ => by rw [hI3_, hI2_, hI1_]; funext q; by_cases e0 : i = [10, p, j, w, k]; (rw [e0]; simp [up, upR, r0, q0, q1, q2, rC, rS, rP, rK, h0, hz]); simp [up, upR, e0]) (fun _ _ => rfl))

set_option maxHeartbeats 1000000 in
set_option maxRecDepth 100000 in
theorem c_X2_init (l : Launch) (g : xG) (dm : List Nat → Prop) (I : xI) (F : xF) (n : Nat) (p j w : Nat) (hd : dm [8, p, j, w]) (h0 : I [8, p, j, w] = fun _ => 0) (hz : F [8, p, j, w] = fun _ => none) (hn0 : ¬ dm [9, p, j, w]) (ha0 : ga g [9, p, j, w] = n) : xM l yX2_init (xws yX2_init cX2_init 1 none) 1 12 g [.ref (ga g [8, p, j, w])] (xR g dm I F n) none (xR g (fun i => i = [9, p, j, w] ∨ dm i) (upR (upR I [8, p, j, w] r0) [9, p, j, w] r0) (upR (upR F [8, p, j, w] (q1 0 [9, p, j, w])) [9, p, j, w] q0) (n + 1)) 1 3 := by
  refine xM.of (by decide) (Nat.le_of_ble_eq_true rfl) ?_
  intro P_ e_ s m_ bl_ mt_ cd_ ls hx hb hr hown hlocks hml hnm hE hK hts hH hS hl
  have hl : lv_has ls 1 [(0, .ref (ga g [8, p, j, w]))] := hl
  refine lv_aload_n hx hb dX2_init_0 rfl (lv_at hl 0 rfl) ?_
  refine W.objInit hx hb hown (hts _ tw312) (hts _ tw27) (hts _ tw28) rfl (hl.1.trans hml.symm) rfl dX2_init_1 (Nat.le_of_ble_eq_true rfl) (Nat.le_of_ble_eq_true rfl) ?_
  refine lv_aload_n hx hb dX2_init_4 rfl (lv_at hl 0 rfl) ?_
  refine lv_iconst (v := 3) hx hb dX2_init_5 (by decide) ?_
  refine x_anew (L := 3) (C := "CasebookSteps$Condition") hx hb hown (hts _ tw313) (va_AO.use (hE.2.2.1 _ (List.mem_of_getElem? (i := 3) rfl))) 6 (by decide) rfl hK hH hS [9, p, j, w] (by simp [hn0]) (by omega) rfl (by rfl) (by decide) (Nat.le_of_ble_eq_true rfl) (Nat.le_of_ble_eq_true rfl) dX2_init_6 (fun H hH hS => ?_)
  obtain ⟨I1_, hI1_⟩ : ∃ z, z = upR I [9, p, j, w] (fun _ => (0 : Int32)) := ⟨_, rfl⟩
  obtain ⟨F1_, hF1_⟩ : ∃ z, z = upR F [9, p, j, w] (fun _ => (none : Option (List Nat))) := ⟨_, rfl⟩
  rw [← hI1_, ← hF1_] at hH
  obtain ⟨F2_, hF2_⟩ : ∃ z, z = up F1_ [8, p, j, w] 0 (some [9, p, j, w]) := ⟨_, rfl⟩
  refine x_put (C := RX2) (T := TX2) (N := 2) (ci := 2) hx hb hts iu2 tyX2 tyX2_ok nmX2 hown hK hH hS (id := [8, p, j, w]) (Or.inr (hd)) rfl rfl (by decide) 0 (by decide) (hts _ tw315) (fun _ h9 => h9) (Or.inr ⟨rfl, hnm, rfl⟩) (ty := (.array (.object "CasebookSteps$Condition"))) (v := .ref (ga g [9, p, j, w])) (by decide +kernel) rfl rfl (I' := I1_) (F' := F2_) (fun _ _ => rfl) (fun i hi => by rw [hF2_]; exact up_id hi) (fun j9 => by rw [hF2_, up_row]; exact xv_updq (ci := 2) (k := 0) (x := (some [9, p, j, w])) rfl j9) dX2_init_9 (fun H locs hH hS => ?_)
  refine lv_aload_n hx hb dX2_init_12 rfl (lv_at hl 0 rfl) ?_
  refine lv_iconst (v := 0) hx hb dX2_init_13 (by decide) ?_
  obtain ⟨I3_, hI3_⟩ : ∃ z, z = up I1_ [8, p, j, w] 1 0 := ⟨_, rfl⟩
  refine x_put (C := RX2) (T := TX2) (N := 2) (ci := 2) hx hb hts iu2 tyX2 tyX2_ok nmX2 hown hK hH hS (id := [8, p, j, w]) (Or.inr (hd)) rfl rfl (by decide) 1 (by decide) (hts _ tw316) (fun _ h9 => h9) (Or.inl rfl) (ty := .int) (v := .int 0) (by decide +kernel) rfl rfl (I' := I3_) (F' := F2_) (fun i hi => by rw [hI3_]; exact up_id hi) (fun _ _ => rfl) (fun j9 => by rw [hI3_, up_row]; exact xv_upd (ci := 2) (k := 1) rfl j9) dX2_init_14 (fun H locs hH hS => ?_)
  exact x_vret hx hb hr hlocks hS dX2_init_17 (hH.congr (g' := g) (fun _ hi => hi) (fun i _ => by rw [hI3_, hI1_]; funext q; by_cases e0 : i = [8, p, j, w]; (rw [e0]; simp [up, upR, r0, q0, q1, q2, rC, rS, rP, rK, h0, hz]); by_cases e1 : i = [9, p, j, w]; (rw [e1]; simp [up, upR, r0, q0, q1, q2, rC, rS, rP, rK, h0, hz]); simp [up, upR, e0, e1]) (fun i _ => by rw [hF2_, hF1_]; funext q; by_cases e0 : i = [8, p, j, w]; (rw [e0]; simp [up, upR, r0, q0, q1, q2, rC, rS, rP, rK, h0, hz]); by_cases e1 : i = [9, p, j, w]; (rw [e1]; simp [up, upR, r0, q0, q1, q2, rC, rS, rP, rK, h0, hz]); simp [up, upR, e0, e1]))

def qJ : Nat → Option (List Nat) := fun q => if q = 3 then some [4, 3] else if q = 2 then some [4, 2] else if q = 1 then some [4, 1] else if q = 0 then some [4, 0] else none
def qS (p j : Nat) : Nat → Option (List Nat) := fun q => if q = 3 then some [8, p, j, 1] else if q = 2 then some [8, p, j, 0] else none
def qK (c : Nat) (i : List Nat) : Nat → Option (List Nat) := fun q => if q = 0 then some i else if q = 5 then some [11, c, 5] else if q = 4 then some [11, c, 4] else if q = 3 then some [11, c, 3] else if q = 2 then some [11, c, 2] else if q = 1 then some [11, c, 1] else none
def qM : Nat → Option (List Nat) := fun q => if q = 5 then some [11, 4, 0] else if q = 4 then some [3] else if q = 2 then some [2] else if q = 0 then some [1] else none
set_option maxHeartbeats 1000000 in
set_option maxRecDepth 100000 in
theorem c_X3_init (l : Launch) (g : xG) (dm : List Nat → Prop) (I : xI) (F : xF) (n : Nat)  (hd : dm [3]) (h0 : I [3] = fun _ => 0) (hz : F [3] = fun _ => none) (hn0 : ¬ dm [4, 0]) (ha0 : ga g [4, 0] = n) (hn1 : ¬ dm [4, 1]) (ha1 : ga g [4, 1] = n + 1) (hn2 : ¬ dm [4, 2]) (ha2 : ga g [4, 2] = n + 2) (hn3 : ¬ dm [4, 3]) (ha3 : ga g [4, 3] = n + 3) : xM l yX3_init (xws yX3_init cX3_init 1 none) 1 12 g [.ref (ga g [3])] (xR g dm I F n) none (xR g (fun i => i = [4, 3] ∨ (fun i => i = [4, 2] ∨ (fun i => i = [4, 1] ∨ (fun i => i = [4, 0] ∨ dm i) i) i) i) (upR (upR (upR (upR (upR I [3] r0) [4, 0] r0) [4, 1] r0) [4, 2] r0) [4, 3] r0) (upR (upR (upR (upR (upR F [3] qJ) [4, 0] q0) [4, 1] q0) [4, 2] q0) [4, 3] q0) ((((n + 1) + 1) + 1) + 1)) 4 2048 := by
  refine xM.of (by decide) (Nat.le_of_ble_eq_true rfl) ?_
  intro P_ e_ s m_ bl_ mt_ cd_ ls hx hb hr hown hlocks hml hnm hE hK hts hH hS hl
  have hl : lv_has ls 1 [(0, .ref (ga g [3]))] := hl
  refine lv_aload_n hx hb dX3_init_0 rfl (lv_at hl 0 rfl) ?_
  refine W.objInit hx hb hown (hts _ tw38) (hts _ tw27) (hts _ tw28) rfl (hl.1.trans hml.symm) rfl dX3_init_1 (Nat.le_of_ble_eq_true rfl) (Nat.le_of_ble_eq_true rfl) ?_
  refine lv_aload_n hx hb dX3_init_4 rfl (lv_at hl 0 rfl) ?_
  refine lv_sipush (v := 512) hx hb dX3_init_5 (by decide) ?_
  refine x_newa (atype := .int) (L := 512) hx hb (hts _ tw60) 0 (by decide) rfl hK hH hS [4, 0] (by simp [hn0]) (by omega) rfl (by rfl) (by decide) (Nat.le_of_ble_eq_true rfl) (Nat.le_of_ble_eq_true rfl) dX3_init_8 (fun H hH hS => ?_)
  obtain ⟨I1_, hI1_⟩ : ∃ z, z = upR I [4, 0] (fun _ => (0 : Int32)) := ⟨_, rfl⟩
  obtain ⟨F1_, hF1_⟩ : ∃ z, z = upR F [4, 0] (fun _ => (none : Option (List Nat))) := ⟨_, rfl⟩
  rw [← hI1_, ← hF1_] at hH
  obtain ⟨F2_, hF2_⟩ : ∃ z, z = up F1_ [3] 0 (some [4, 0]) := ⟨_, rfl⟩
  refine x_put (C := RX3) (T := TX3) (N := 5) (ci := 3) hx hb hts iu3 tyX3 tyX3_ok nmX3 hown hK hH hS (id := [3]) (Or.inr (hd)) rfl rfl (by decide) 0 (by decide) (hts _ tw39) (fun _ h9 => h9) (Or.inr ⟨rfl, hnm, rfl⟩) (ty := (.array .int)) (v := .ref (ga g [4, 0])) (by decide +kernel) rfl rfl (I' := I1_) (F' := F2_) (fun _ _ => rfl) (fun i hi => by rw [hF2_]; exact up_id hi) (fun j9 => by rw [hF2_, up_row]; exact xv_updq (ci := 3) (k := 0) (x := (some [4, 0])) rfl j9) dX3_init_10 (fun H locs hH hS => ?_)
  refine lv_aload_n hx hb dX3_init_13 rfl (lv_at hl 0 rfl) ?_
  refine lv_sipush (v := 512) hx hb dX3_init_14 (by decide) ?_
  refine x_newa (atype := .int) (L := 512) hx hb (hts _ tw60) 0 (by decide) rfl hK hH hS [4, 1] (by simp [hn1]) (by omega) rfl (by rfl) (by decide) (Nat.le_of_ble_eq_true rfl) (Nat.le_of_ble_eq_true rfl) dX3_init_17 (fun H hH hS => ?_)
  obtain ⟨I3_, hI3_⟩ : ∃ z, z = upR I1_ [4, 1] (fun _ => (0 : Int32)) := ⟨_, rfl⟩
  obtain ⟨F3_, hF3_⟩ : ∃ z, z = upR F2_ [4, 1] (fun _ => (none : Option (List Nat))) := ⟨_, rfl⟩
  rw [← hI3_, ← hF3_] at hH
  obtain ⟨F4_, hF4_⟩ : ∃ z, z = up F3_ [3] 1 (some [4, 1]) := ⟨_, rfl⟩
  refine x_put (C := RX3) (T := TX3) (N := 5) (ci := 3) hx hb hts iu3 tyX3 tyX3_ok nmX3 hown hK hH hS (id := [3]) (Or.inr (Or.inr (hd))) rfl rfl (by decide) 1 (by decide) (hts _ tw41) (fun _ h9 => h9) (Or.inr ⟨rfl, hnm, rfl⟩) (ty := (.array .int)) (v := .ref (ga g [4, 1])) (by decide +kernel) rfl rfl (I' := I3_) (F' := F4_) (fun _ _ => rfl) (fun i hi => by rw [hF4_]; exact up_id hi) (fun j9 => by rw [hF4_, up_row]; exact xv_updq (ci := 3) (k := 1) (x := (some [4, 1])) rfl j9) dX3_init_19 (fun H locs hH hS => ?_)
  refine lv_aload_n hx hb dX3_init_22 rfl (lv_at hl 0 rfl) ?_
  refine lv_sipush (v := 512) hx hb dX3_init_23 (by decide) ?_
  refine x_newa (atype := .int) (L := 512) hx hb (hts _ tw60) 0 (by decide) rfl hK hH hS [4, 2] (by simp [hn2]) (by omega) rfl (by rfl) (by decide) (Nat.le_of_ble_eq_true rfl) (Nat.le_of_ble_eq_true rfl) dX3_init_26 (fun H hH hS => ?_)
  obtain ⟨I5_, hI5_⟩ : ∃ z, z = upR I3_ [4, 2] (fun _ => (0 : Int32)) := ⟨_, rfl⟩
  obtain ⟨F5_, hF5_⟩ : ∃ z, z = upR F4_ [4, 2] (fun _ => (none : Option (List Nat))) := ⟨_, rfl⟩
  rw [← hI5_, ← hF5_] at hH
  obtain ⟨F6_, hF6_⟩ : ∃ z, z = up F5_ [3] 2 (some [4, 2]) := ⟨_, rfl⟩
  refine x_put (C := RX3) (T := TX3) (N := 5) (ci := 3) hx hb hts iu3 tyX3 tyX3_ok nmX3 hown hK hH hS (id := [3]) (Or.inr (Or.inr (Or.inr (hd)))) rfl rfl (by decide) 2 (by decide) (hts _ tw43) (fun _ h9 => h9) (Or.inr ⟨rfl, hnm, rfl⟩) (ty := (.array .int)) (v := .ref (ga g [4, 2])) (by decide +kernel) rfl rfl (I' := I5_) (F' := F6_) (fun _ _ => rfl) (fun i hi => by rw [hF6_]; exact up_id hi) (fun j9 => by rw [hF6_, up_row]; exact xv_updq (ci := 3) (k := 2) (x := (some [4, 2])) rfl j9) dX3_init_28 (fun H locs hH hS => ?_)
  refine lv_aload_n hx hb dX3_init_31 rfl (lv_at hl 0 rfl) ?_
  refine lv_sipush (v := 512) hx hb dX3_init_32 (by decide) ?_
  refine x_newa (atype := .int) (L := 512) hx hb (hts _ tw60) 0 (by decide) rfl hK hH hS [4, 3] (by simp [hn3]) (by omega) rfl (by rfl) (by decide) (Nat.le_of_ble_eq_true rfl) (Nat.le_of_ble_eq_true rfl) dX3_init_35 (fun H hH hS => ?_)
  obtain ⟨I7_, hI7_⟩ : ∃ z, z = upR I5_ [4, 3] (fun _ => (0 : Int32)) := ⟨_, rfl⟩
  obtain ⟨F7_, hF7_⟩ : ∃ z, z = upR F6_ [4, 3] (fun _ => (none : Option (List Nat))) := ⟨_, rfl⟩
  rw [← hI7_, ← hF7_] at hH
  obtain ⟨F8_, hF8_⟩ : ∃ z, z = up F7_ [3] 3 (some [4, 3]) := ⟨_, rfl⟩
  refine x_put (C := RX3) (T := TX3) (N := 5) (ci := 3) hx hb hts iu3 tyX3 tyX3_ok nmX3 hown hK hH hS (id := [3]) (Or.inr (Or.inr (Or.inr (Or.inr (hd))))) rfl rfl (by decide) 3 (by decide) (hts _ tw45) (fun _ h9 => h9) (Or.inr ⟨rfl, hnm, rfl⟩) (ty := (.array .int)) (v := .ref (ga g [4, 3])) (by decide +kernel) rfl rfl (I' := I7_) (F' := F8_) (fun _ _ => rfl) (fun i hi => by rw [hF8_]; exact up_id hi) (fun j9 => by rw [hF8_, up_row]; exact xv_updq (ci := 3) (k := 3) (x := (some [4, 3])) rfl j9) dX3_init_37 (fun H locs hH hS => ?_)
  refine lv_aload_n hx hb dX3_init_40 rfl (lv_at hl 0 rfl) ?_
  refine lv_iconst (v := 0) hx hb dX3_init_41 (by decide) ?_
  obtain ⟨I9_, hI9_⟩ : ∃ z, z = up I7_ [3] 4 0 := ⟨_, rfl⟩
  refine x_put (C := RX3) (T := TX3) (N := 5) (ci := 3) hx hb hts iu3 tyX3 tyX3_ok nmX3 hown hK hH hS (id := [3]) (Or.inr (Or.inr (Or.inr (Or.inr (hd))))) rfl rfl (by decide) 4 (by decide) (hts _ tw47) (fun _ h9 => h9) (Or.inl rfl) (ty := .int) (v := .int 0) (by decide +kernel) rfl rfl (I' := I9_) (F' := F8_) (fun i hi => by rw [hI9_]; exact up_id hi) (fun _ _ => rfl) (fun j9 => by rw [hI9_, up_row]; exact xv_upd (ci := 3) (k := 4) rfl j9) dX3_init_42 (fun H locs hH hS => ?_)
  exact x_vret hx hb hr hlocks hS dX3_init_45 (hH.congr (g' := g) (fun _ hi => hi) (fun i _ => by rw [hI9_, hI7_, hI5_, hI3_, hI1_]; funext q; by_cases e0 : i = [3]; (rw [e0]; simp [up, upR, r0, q0, q1, q2, rC, rS, rP, rK, h0, hz, qJ]); by_cases e1 : i = [4, 0]; (rw [e1]; simp [up, upR, r0, q0, q1, q2, rC, rS, rP, rK, h0, hz, qJ]); by_cases e2 : i = [4, 1]; (rw [e2]; simp [up, upR, r0, q0, q1, q2, rC, rS, rP, rK, h0, hz, qJ]); by_cases e3 : i = [4, 2]; (rw [e3]; simp [up, upR, r0, q0, q1, q2, rC, rS, rP, rK, h0, hz, qJ]); by_cases e4 : i = [4, 3]; (rw [e4]; simp [up, upR, r0, q0, q1, q2, rC, rS, rP, rK, h0, hz, qJ]); simp [up, upR, e0, e1, e2, e3, e4]) (fun i _ => by rw [hF8_, hF7_, hF6_, hF5_, hF4_, hF3_, hF2_, hF1_]; funext q; by_cases e0 : i = [3]; (rw [e0]; simp [up, upR, r0, q0, q1, q2, rC, rS, rP, rK, h0, hz, qJ]); by_cases e1 : i = [4, 0]; (rw [e1]; simp [up, upR, r0, q0, q1, q2, rC, rS, rP, rK, h0, hz, qJ]); by_cases e2 : i = [4, 1]; (rw [e2]; simp [up, upR, r0, q0, q1, q2, rC, rS, rP, rK, h0, hz, qJ]); by_cases e3 : i = [4, 2]; (rw [e3]; simp [up, upR, r0, q0, q1, q2, rC, rS, rP, rK, h0, hz, qJ]); by_cases e4 : i = [4, 3]; (rw [e4]; simp [up, upR, r0, q0, q1, q2, rC, rS, rP, rK, h0, hz, qJ]); simp [up, upR, e0, e1, e2, e3, e4]))

set_option maxHeartbeats 1000000 in
set_option maxRecDepth 100000 in
theorem c_X4_init (l : Launch) (g : xG) (dm : List Nat → Prop) (I : xI) (F : xF) (n : Nat) (p : Nat) (v : Int32) (hd : dm [5, p]) (h0 : I [5, p] = fun _ => 0) (hz : F [5, p] = fun _ => none) (hn0 : ¬ dm [6, p]) (ha0 : ga g [6, p] = n) : xM l yX4_init (xws yX4_init cX4_init 2 none) 1 12 g [.ref (ga g [5, p]), .int v] (xR g dm I F n) none (xR g (fun i => i = [6, p] ∨ dm i) (upR (upR I [5, p] (rP v)) [6, p] r0) (upR (upR F [5, p] (q1 1 [6, p])) [6, p] q0) (n + 1)) 1 8 := by
  refine xM.of (by decide) (Nat.le_of_ble_eq_true rfl) ?_
  intro P_ e_ s m_ bl_ mt_ cd_ ls hx hb hr hown hlocks hml hnm hE hK hts hH hS hl
  have hl : lv_has ls 2 [(0, .ref (ga g [5, p])), (1, .int v)] := hl
  refine lv_aload_n hx hb dX4_init_0 rfl (lv_at hl 0 rfl) ?_
  refine W.objInit hx hb hown (hts _ tw66) (hts _ tw27) (hts _ tw28) rfl (hl.1.trans hml.symm) rfl dX4_init_1 (Nat.le_of_ble_eq_true rfl) (Nat.le_of_ble_eq_true rfl) ?_
  refine lv_aload_n hx hb dX4_init_4 rfl (lv_at hl 0 rfl) ?_
  refine lv_bipush (v := 8) hx hb dX4_init_5 (by decide) ?_
  refine x_anew (L := 8) (C := "CasebookSteps$Step") hx hb hown (hts _ tw67) (va_AO.use (hE.2.2.1 _ (List.mem_of_getElem? (i := 2) rfl))) 5 (by decide) rfl hK hH hS [6, p] (by simp [hn0]) (by omega) rfl (by rfl) (by decide) (Nat.le_of_ble_eq_true rfl) (Nat.le_of_ble_eq_true rfl) dX4_init_7 (fun H hH hS => ?_)
  obtain ⟨I1_, hI1_⟩ : ∃ z, z = upR I [6, p] (fun _ => (0 : Int32)) := ⟨_, rfl⟩
  obtain ⟨F1_, hF1_⟩ : ∃ z, z = upR F [6, p] (fun _ => (none : Option (List Nat))) := ⟨_, rfl⟩
  rw [← hI1_, ← hF1_] at hH
  obtain ⟨F2_, hF2_⟩ : ∃ z, z = up F1_ [5, p] 1 (some [6, p]) := ⟨_, rfl⟩
  refine x_put (C := RX4) (T := TX4) (N := 4) (ci := 4) hx hb hts iu4 tyX4 tyX4_ok nmX4 hown hK hH hS (id := [5, p]) (Or.inr (hd)) rfl rfl (by decide) 1 (by decide) (hts _ tw71) (fun _ h9 => h9) (Or.inr ⟨rfl, hnm, rfl⟩) (ty := (.array (.object "CasebookSteps$Step"))) (v := .ref (ga g [6, p])) (by decide +kernel) rfl rfl (I' := I1_) (F' := F2_) (fun _ _ => rfl) (fun i hi => by rw [hF2_]; exact up_id hi) (fun j9 => by rw [hF2_, up_row]; exact xv_updq (ci := 4) (k := 1) (x := (some [6, p])) rfl j9) dX4_init_10 (fun H locs hH hS => ?_)
  refine lv_aload_n hx hb dX4_init_13 rfl (lv_at hl 0 rfl) ?_
  refine lv_iconst (v := 0) hx hb dX4_init_14 (by decide) ?_
  obtain ⟨I3_, hI3_⟩ : ∃ z, z = up I1_ [5, p] 2 0 := ⟨_, rfl⟩
  refine x_put (C := RX4) (T := TX4) (N := 4) (ci := 4) hx hb hts iu4 tyX4 tyX4_ok nmX4 hown hK hH hS (id := [5, p]) (Or.inr (hd)) rfl rfl (by decide) 2 (by decide) (hts _ tw72) (fun _ h9 => h9) (Or.inl rfl) (ty := .int) (v := .int 0) (by decide +kernel) rfl rfl (I' := I3_) (F' := F2_) (fun i hi => by rw [hI3_]; exact up_id hi) (fun _ _ => rfl) (fun j9 => by rw [hI3_, up_row]; exact xv_upd (ci := 4) (k := 2) rfl j9) dX4_init_15 (fun H locs hH hS => ?_)
  refine lv_aload_n hx hb dX4_init_18 rfl (lv_at hl 0 rfl) ?_
  refine lv_iconst (v := 0) hx hb dX4_init_19 (by decide) ?_
  obtain ⟨I4_, hI4_⟩ : ∃ z, z = up I3_ [5, p] 3 0 := ⟨_, rfl⟩
  refine x_put (C := RX4) (T := TX4) (N := 4) (ci := 4) hx hb hts iu4 tyX4 tyX4_ok nmX4 hown hK hH hS (id := [5, p]) (Or.inr (hd)) rfl rfl (by decide) 3 (by decide) (hts _ tw75) (fun _ h9 => h9) (Or.inl rfl) (ty := .boolean) (v := .int 0) (by decide +kernel) rfl rfl (I' := I4_) (F' := F2_) (fun i hi => by rw [hI4_]; exact up_id hi) (fun _ _ => rfl) (fun j9 => by rw [hI4_, up_row]; exact xv_upd (ci := 4) (k := 3) rfl j9) dX4_init_20 (fun H locs hH hS => ?_)
  refine lv_aload_n hx hb dX4_init_23 rfl (lv_at hl 0 rfl) ?_
  refine lv_iload_n hx hb dX4_init_24 rfl (lv_at hl 1 rfl) ?_
  obtain ⟨I5_, hI5_⟩ : ∃ z, z = up I4_ [5, p] 0 v := ⟨_, rfl⟩
  refine x_put (C := RX4) (T := TX4) (N := 4) (ci := 4) hx hb hts iu4 tyX4 tyX4_ok nmX4 hown hK hH hS (id := [5, p]) (Or.inr (hd)) rfl rfl (by decide) 0 (by decide) (hts _ tw69) (fun _ h9 => h9) (Or.inr ⟨rfl, hnm, rfl⟩) (ty := .int) (v := .int v) (by decide +kernel) rfl rfl (I' := I5_) (F' := F2_) (fun i hi => by rw [hI5_]; exact up_id hi) (fun _ _ => rfl) (fun j9 => by rw [hI5_, up_row]; exact xv_upd (ci := 4) (k := 0) rfl j9) dX4_init_25 (fun H locs hH hS => ?_)
  exact x_vret hx hb hr hlocks hS dX4_init_28 (hH.congr (g' := g) (fun _ hi => hi) (fun i _ => by rw [hI5_, hI4_, hI3_, hI1_]; funext q; by_cases e0 : i = [5, p]; (rw [e0]; simp [up, upR, r0, q0, q1, q2, rC, rS, rP, rK, h0, hz]); by_cases e1 : i = [6, p]; (rw [e1]; simp [up, upR, r0, q0, q1, q2, rC, rS, rP, rK, h0, hz]); simp [up, upR, e0, e1]) (fun i _ => by rw [hF2_, hF1_]; funext q; by_cases e0 : i = [5, p]; (rw [e0]; simp [up, upR, r0, q0, q1, q2, rC, rS, rP, rK, h0, hz]); by_cases e1 : i = [6, p]; (rw [e1]; simp [up, upR, r0, q0, q1, q2, rC, rS, rP, rK, h0, hz]); simp [up, upR, e0, e1]))

set_option maxHeartbeats 1000000 in
set_option maxRecDepth 100000 in
theorem c_X5_init (l : Launch) (g : xG) (dm : List Nat → Prop) (I : xI) (F : xF) (n : Nat) (p j : Nat) (kd pa : Int32) (hs : narrow .char (.int kd) = .int kd) (hf : fits .char (.int kd) = true) (hd : dm [7, p, j]) (h0 : I [7, p, j] = fun _ => 0) (hz : F [7, p, j] = fun _ => none) (hn0 : ¬ dm [8, p, j, 0]) (ha0 : ga g [8, p, j, 0] = n) (hn1 : ¬ dm [9, p, j, 0]) (ha1 : ga g [9, p, j, 0] = n + 1) (hn2 : ¬ dm [8, p, j, 1]) (ha2 : ga g [8, p, j, 1] = n + 2) (hn3 : ¬ dm [9, p, j, 1]) (ha3 : ga g [9, p, j, 1] = n + 3) : xM l yX5_init (xws yX5_init cX5_init 3 none) 2 32 g [.ref (ga g [7, p, j]), .int kd, .int pa] (xR g dm I F n) none (xR g (fun i => i = [9, p, j, 1] ∨ (fun i => i = [8, p, j, 1] ∨ (fun i => i = [9, p, j, 0] ∨ (fun i => i = [8, p, j, 0] ∨ dm i) i) i) i) (upR (upR (upR (upR (upR I [7, p, j] (rS kd pa)) [8, p, j, 0] r0) [9, p, j, 0] r0) [8, p, j, 1] r0) [9, p, j, 1] r0) (upR (upR (upR (upR (upR F [7, p, j] (qS p j)) [8, p, j, 0] (q1 0 [9, p, j, 0])) [9, p, j, 0] q0) [8, p, j, 1] (q1 0 [9, p, j, 1])) [9, p, j, 1] q0) ((((n + 1) + 1) + 1) + 1)) 4 10 := by
  refine xM.of (by decide) (Nat.le_of_ble_eq_true rfl) ?_
  intro P_ e_ s m_ bl_ mt_ cd_ ls hx hb hr hown hlocks hml hnm hE hK hts hH hS hl
  have hl : lv_has ls 3 [(0, .ref (ga g [7, p, j])), (1, .int kd), (2, .int pa)] := hl
  refine lv_aload_n hx hb dX5_init_0 rfl (lv_at hl 0 rfl) ?_
  refine W.objInit hx hb hown (hts _ tw306) (hts _ tw27) (hts _ tw28) rfl (hl.1.trans hml.symm) rfl dX5_init_1 (Nat.le_of_ble_eq_true rfl) (Nat.le_of_ble_eq_true rfl) ?_
  refine lv_aload_n hx hb dX5_init_4 rfl (lv_at hl 0 rfl) ?_
  refine x_new (C := RX2) (T := TX2) (N := 2) (ci := 2) hx hb hts iu2 tyX2 tyX2_ok hown (hts _ tw307) (hts _ tw308) (hts _ tw18) hK hH hS [8, p, j, 0] (by simp [hn0]) (by omega) rfl (by decide) rfl (df2 _) (Nat.le_of_ble_eq_true rfl) (Nat.le_of_ble_eq_true rfl) dX5_init_5 (fun H hH hS => ?_)
  obtain ⟨I1_, hI1_⟩ : ∃ z, z = upR I [8, p, j, 0] (fun _ => (0 : Int32)) := ⟨_, rfl⟩
  obtain ⟨F1_, hF1_⟩ : ∃ z, z = upR F [8, p, j, 0] (fun _ => (none : Option (List Nat))) := ⟨_, rfl⟩
  rw [← hI1_, ← hF1_] at hH
  refine lv_dup hx hb dX5_init_8 rfl ?_
  refine x_I0N hx hb hml hown hE hS hl.1 cyX2_init (host := "CasebookSteps") (by first | exact List.mem_cons_self | exact List.mem_cons_of_mem _ List.mem_cons_self | exact List.mem_cons_of_mem _ (List.mem_cons_of_mem _ List.mem_cons_self)) (c_X2_init l g (fun i => i = [8, p, j, 0] ∨ dm i) I1_ F1_ ((n + 1)) p j 0 (Or.inl rfl) (by first | (rw [hI1_]; simp [upR]) | simp [upR]) (by first | (rw [hF1_]; simp [upR, up]) | simp [upR]) (by simp [hn1]) (by omega)) ⟨Nat.le_of_ble_eq_true rfl, Nat.le_of_ble_eq_true rfl⟩ ⟨Nat.le_of_ble_eq_true rfl, Nat.le_of_ble_eq_true rfl⟩ hH rfl rfl (Nat.le_of_ble_eq_true rfl) dX5_init_9 (fun H locs hH hS => ?_)
  obtain ⟨I2_, hI2_⟩ : ∃ z, z = (upR (upR I1_ [8, p, j, 0] r0) [9, p, j, 0] r0) := ⟨_, rfl⟩
  obtain ⟨F2_, hF2_⟩ : ∃ z, z = (upR (upR F1_ [8, p, j, 0] (q1 0 [9, p, j, 0])) [9, p, j, 0] q0) := ⟨_, rfl⟩
  rw [← hI2_, ← hF2_] at hH
  obtain ⟨F3_, hF3_⟩ : ∃ z, z = up F2_ [7, p, j] 2 (some [8, p, j, 0]) := ⟨_, rfl⟩
  refine x_put (C := RX5) (T := TX5) (N := 7) (ci := 5) hx hb hts iu5 tyX5 tyX5_ok nmX5 hown hK hH hS (id := [7, p, j]) (Or.inr (Or.inr (hd))) rfl rfl (by decide) 2 (by decide) (hts _ tw330) (fun _ h9 => h9) (Or.inr ⟨rfl, hnm, rfl⟩) (ty := (.object "CasebookSteps$Conditions")) (v := .ref (ga g [8, p, j, 0])) (by decide +kernel) rfl rfl (I' := I2_) (F' := F3_) (fun _ _ => rfl) (fun i hi => by rw [hF3_]; exact up_id hi) (fun j9 => by rw [hF3_, up_row]; exact xv_updq (ci := 5) (k := 2) (x := (some [8, p, j, 0])) rfl j9) dX5_init_12 (fun H locs hH hS => ?_)
  refine lv_aload_n hx hb dX5_init_15 rfl (lv_at hl 0 rfl) ?_
  refine x_new (C := RX2) (T := TX2) (N := 2) (ci := 2) hx hb hts iu2 tyX2 tyX2_ok hown (hts _ tw307) (hts _ tw308) (hts _ tw18) hK hH hS [8, p, j, 1] (by simp [hn2]) (by omega) rfl (by decide) rfl (df2 _) (Nat.le_of_ble_eq_true rfl) (Nat.le_of_ble_eq_true rfl) dX5_init_16 (fun H hH hS => ?_)
  obtain ⟨I4_, hI4_⟩ : ∃ z, z = upR I2_ [8, p, j, 1] (fun _ => (0 : Int32)) := ⟨_, rfl⟩
  obtain ⟨F4_, hF4_⟩ : ∃ z, z = upR F3_ [8, p, j, 1] (fun _ => (none : Option (List Nat))) := ⟨_, rfl⟩
  rw [← hI4_, ← hF4_] at hH
  refine lv_dup hx hb dX5_init_19 rfl ?_
  refine x_I0N hx hb hml hown hE hS hl.1 cyX2_init (host := "CasebookSteps") (by first | exact List.mem_cons_self | exact List.mem_cons_of_mem _ List.mem_cons_self | exact List.mem_cons_of_mem _ (List.mem_cons_of_mem _ List.mem_cons_self)) (c_X2_init l g (fun i => i = [8, p, j, 1] ∨ (fun i => i = [9, p, j, 0] ∨ (fun i => i = [8, p, j, 0] ∨ dm i) i) i) I4_ F4_ ((((n + 1) + 1) + 1)) p j 1 (Or.inl rfl) (by first | (rw [hI4_, hI2_, hI1_]; simp [upR]) | simp [upR]) (by first | (rw [hF4_, hF3_, hF2_, hF1_]; simp [upR, up]) | simp [upR]) (by simp [hn3]) (by omega)) ⟨Nat.le_of_ble_eq_true rfl, Nat.le_of_ble_eq_true rfl⟩ ⟨Nat.le_of_ble_eq_true rfl, Nat.le_of_ble_eq_true rfl⟩ hH rfl rfl (Nat.le_of_ble_eq_true rfl) dX5_init_20 (fun H locs hH hS => ?_)
  obtain ⟨I5_, hI5_⟩ : ∃ z, z = (upR (upR I4_ [8, p, j, 1] r0) [9, p, j, 1] r0) := ⟨_, rfl⟩
  obtain ⟨F5_, hF5_⟩ : ∃ z, z = (upR (upR F4_ [8, p, j, 1] (q1 0 [9, p, j, 1])) [9, p, j, 1] q0) := ⟨_, rfl⟩
  rw [← hI5_, ← hF5_] at hH
  obtain ⟨F6_, hF6_⟩ : ∃ z, z = up F5_ [7, p, j] 3 (some [8, p, j, 1]) := ⟨_, rfl⟩
  refine x_put (C := RX5) (T := TX5) (N := 7) (ci := 5) hx hb hts iu5 tyX5 tyX5_ok nmX5 hown hK hH hS (id := [7, p, j]) (Or.inr (Or.inr (Or.inr (Or.inr (hd))))) rfl rfl (by decide) 3 (by decide) (hts _ tw333) (fun _ h9 => h9) (Or.inr ⟨rfl, hnm, rfl⟩) (ty := (.object "CasebookSteps$Conditions")) (v := .ref (ga g [8, p, j, 1])) (by decide +kernel) rfl rfl (I' := I5_) (F' := F6_) (fun _ _ => rfl) (fun i hi => by rw [hF6_]; exact up_id hi) (fun j9 => by rw [hF6_, up_row]; exact xv_updq (ci := 5) (k := 3) (x := (some [8, p, j, 1])) rfl j9) dX5_init_23 (fun H locs hH hS => ?_)
  refine lv_aload_n hx hb dX5_init_26 rfl (lv_at hl 0 rfl) ?_
  refine lv_iconst (v := 1) hx hb dX5_init_27 (by decide) ?_
  obtain ⟨I7_, hI7_⟩ : ∃ z, z = up I5_ [7, p, j] 4 1 := ⟨_, rfl⟩
  refine x_put (C := RX5) (T := TX5) (N := 7) (ci := 5) hx hb hts iu5 tyX5 tyX5_ok nmX5 hown hK hH hS (id := [7, p, j]) (Or.inr (Or.inr (Or.inr (Or.inr (hd))))) rfl rfl (by decide) 4 (by decide) (hts _ tw336) (fun _ h9 => h9) (Or.inl rfl) (ty := .boolean) (v := .int 1) (by decide +kernel) rfl rfl (I' := I7_) (F' := F6_) (fun i hi => by rw [hI7_]; exact up_id hi) (fun _ _ => rfl) (fun j9 => by rw [hI7_, up_row]; exact xv_upd (ci := 5) (k := 4) rfl j9) dX5_init_28 (fun H locs hH hS => ?_)
  refine lv_aload_n hx hb dX5_init_31 rfl (lv_at hl 0 rfl) ?_
  refine lv_bipush (v := 10) hx hb dX5_init_32 (by decide) ?_
  obtain ⟨I8_, hI8_⟩ : ∃ z, z = up I7_ [7, p, j] 5 10 := ⟨_, rfl⟩
  refine x_put (C := RX5) (T := TX5) (N := 7) (ci := 5) hx hb hts iu5 tyX5 tyX5_ok nmX5 hown hK hH hS (id := [7, p, j]) (Or.inr (Or.inr (Or.inr (Or.inr (hd))))) rfl rfl (by decide) 5 (by decide) (hts _ tw339) (fun _ h9 => h9) (Or.inl rfl) (ty := .int) (v := .int 10) (by decide +kernel) rfl rfl (I' := I8_) (F' := F6_) (fun i hi => by rw [hI8_]; exact up_id hi) (fun _ _ => rfl) (fun j9 => by rw [hI8_, up_row]; exact xv_upd (ci := 5) (k := 5) rfl j9) dX5_init_34 (fun H locs hH hS => ?_)
  refine lv_aload_n hx hb dX5_init_37 rfl (lv_at hl 0 rfl) ?_
  refine lv_iconst (v := 0) hx hb dX5_init_38 (by decide) ?_
  obtain ⟨I9_, hI9_⟩ : ∃ z, z = up I8_ [7, p, j] 6 0 := ⟨_, rfl⟩
  refine x_put (C := RX5) (T := TX5) (N := 7) (ci := 5) hx hb hts iu5 tyX5 tyX5_ok nmX5 hown hK hH hS (id := [7, p, j]) (Or.inr (Or.inr (Or.inr (Or.inr (hd))))) rfl rfl (by decide) 6 (by decide) (hts _ tw342) (fun _ h9 => h9) (Or.inl rfl) (ty := .boolean) (v := .int 0) (by decide +kernel) rfl rfl (I' := I9_) (F' := F6_) (fun i hi => by rw [hI9_]; exact up_id hi) (fun _ _ => rfl) (fun j9 => by rw [hI9_, up_row]; exact xv_upd (ci := 5) (k := 6) rfl j9) dX5_init_39 (fun H locs hH hS => ?_)
  refine lv_aload_n hx hb dX5_init_42 rfl (lv_at hl 0 rfl) ?_
  refine lv_iload_n hx hb dX5_init_43 rfl (lv_at hl 1 rfl) ?_
  obtain ⟨I10_, hI10_⟩ : ∃ z, z = up I9_ [7, p, j] 0 kd := ⟨_, rfl⟩
  refine x_put (C := RX5) (T := TX5) (N := 7) (ci := 5) hx hb hts iu5 tyX5 tyX5_ok nmX5 hown hK hH hS (id := [7, p, j]) (Or.inr (Or.inr (Or.inr (Or.inr (hd))))) rfl rfl (by decide) 0 (by decide) (hts _ tw324) (fun _ h9 => h9) (Or.inr ⟨rfl, hnm, rfl⟩) (ty := .char) (v := .int kd) (by decide +kernel) hs hf (I' := I10_) (F' := F6_) (fun i hi => by rw [hI10_]; exact up_id hi) (fun _ _ => rfl) (fun j9 => by rw [hI10_, up_row]; exact xv_upd (ci := 5) (k := 0) rfl j9) dX5_init_44 (fun H locs hH hS => ?_)
  refine lv_aload_n hx hb dX5_init_47 rfl (lv_at hl 0 rfl) ?_
  refine lv_iload_n hx hb dX5_init_48 rfl (lv_at hl 2 rfl) ?_
  obtain ⟨I11_, hI11_⟩ : ∃ z, z = up I10_ [7, p, j] 1 pa := ⟨_, rfl⟩
  refine x_put (C := RX5) (T := TX5) (N := 7) (ci := 5) hx hb hts iu5 tyX5 tyX5_ok nmX5 hown hK hH hS (id := [7, p, j]) (Or.inr (Or.inr (Or.inr (Or.inr (hd))))) rfl rfl (by decide) 1 (by decide) (hts _ tw328) (fun _ h9 => h9) (Or.inr ⟨rfl, hnm, rfl⟩) (ty := .int) (v := .int pa) (by decide +kernel) rfl rfl (I' := I11_) (F' := F6_) (fun i hi => by rw [hI11_]; exact up_id hi) (fun _ _ => rfl) (fun j9 => by rw [hI11_, up_row]; exact xv_upd (ci := 5) (k := 1) rfl j9) dX5_init_49 (fun H locs hH hS => ?_)
  exact x_vret hx hb hr hlocks hS dX5_init_52 (hH.congr (g' := g) (fun _ hi => hi) (fun i _ => by rw [hI11_, hI10_, hI9_, hI8_, hI7_, hI5_, hI4_, hI2_, hI1_]; funext q; by_cases e0 : i = [7, p, j]; (rw [e0]; simp [up, upR, r0, q0, q1, q2, rC, rS, rP, rK, h0, hz, qS]); by_cases e1 : i = [8, p, j, 0]; (rw [e1]; simp [up, upR, r0, q0, q1, q2, rC, rS, rP, rK, h0, hz, qS]); by_cases e2 : i = [9, p, j, 0]; (rw [e2]; simp [up, upR, r0, q0, q1, q2, rC, rS, rP, rK, h0, hz, qS]); by_cases e3 : i = [8, p, j, 1]; (rw [e3]; simp [up, upR, r0, q0, q1, q2, rC, rS, rP, rK, h0, hz, qS]); by_cases e4 : i = [9, p, j, 1]; (rw [e4]; simp [up, upR, r0, q0, q1, q2, rC, rS, rP, rK, h0, hz, qS]); simp [up, upR, e0, e1, e2, e3, e4]) (fun i _ => by rw [hF6_, hF5_, hF4_, hF3_, hF2_, hF1_]; funext q; by_cases e0 : i = [7, p, j]; (rw [e0]; simp [up, upR, r0, q0, q1, q2, rC, rS, rP, rK, h0, hz, qS]); by_cases e1 : i = [8, p, j, 0]; (rw [e1]; simp [up, upR, r0, q0, q1, q2, rC, rS, rP, rK, h0, hz, qS]); by_cases e2 : i = [9, p, j, 0]; (rw [e2]; simp [up, upR, r0, q0, q1, q2, rC, rS, rP, rK, h0, hz, qS]); by_cases e3 : i = [8, p, j, 1]; (rw [e3]; simp [up, upR, r0, q0, q1, q2, rC, rS, rP, rK, h0, hz, qS]); by_cases e4 : i = [9, p, j, 1]; (rw [e4]; simp [up, upR, r0, q0, q1, q2, rC, rS, rP, rK, h0, hz, qS]); simp [up, upR, e0, e1, e2, e3, e4]))

set_option maxHeartbeats 1000000 in
set_option maxRecDepth 100000 in
theorem c_X0_init (l : Launch) (g : xG) (dm : List Nat → Prop) (I : xI) (F : xF) (n : Nat) (c : Nat) (hk : c < 5) (q : Nat) (hq : dm [5, q]) (hd : dm [11, c, 0]) (h0 : I [11, c, 0] = fun _ => 0) (hz : F [11, c, 0] = fun _ => none) (hn0 : ¬ dm [11, c, 1]) (ha0 : ga g [11, c, 1] = n) (hn1 : ¬ dm [11, c, 2]) (ha1 : ga g [11, c, 2] = n + 1) (hn2 : ¬ dm [11, c, 3]) (ha2 : ga g [11, c, 3] = n + 2) (hn3 : ¬ dm [11, c, 4]) (ha3 : ga g [11, c, 4] = n + 3) (hn4 : ¬ dm [11, c, 5]) (ha4 : ga g [11, c, 5] = n + 4) : xM l yX0_init (xws yX0_init cX0_init 2 none) 1 12 g [.ref (ga g [11, c, 0]), .ref (ga g [5, q])] (xR g dm I F n) none (xR g (fun i => i = [11, c, 5] ∨ (fun i => i = [11, c, 4] ∨ (fun i => i = [11, c, 3] ∨ (fun i => i = [11, c, 2] ∨ (fun i => i = [11, c, 1] ∨ dm i) i) i) i) i) (upR (upR (upR (upR (upR (upR I [11, c, 0] rK) [11, c, 1] r0) [11, c, 2] r0) [11, c, 3] r0) [11, c, 4] r0) [11, c, 5] r0) (upR (upR (upR (upR (upR (upR F [11, c, 0] (qK c [5, q])) [11, c, 1] q0) [11, c, 2] q0) [11, c, 3] q0) [11, c, 4] q0) [11, c, 5] q0) (((((n + 1) + 1) + 1) + 1) + 1)) 5 36 := by
  refine xM.of (by decide) (Nat.le_of_ble_eq_true rfl) ?_
  intro P_ e_ s m_ bl_ mt_ cd_ ls hx hb hr hown hlocks hml hnm hE hK hts hH hS hl
  have hl : lv_has ls 2 [(0, .ref (ga g [11, c, 0])), (1, .ref (ga g [5, q]))] := hl
  refine lv_aload_n hx hb dX0_init_0 rfl (lv_at hl 0 rfl) ?_
  refine W.objInit hx hb hown (hts _ tw89) (hts _ tw27) (hts _ tw28) rfl (hl.1.trans hml.symm) rfl dX0_init_1 (Nat.le_of_ble_eq_true rfl) (Nat.le_of_ble_eq_true rfl) ?_
  refine lv_aload_n hx hb dX0_init_4 rfl (lv_at hl 0 rfl) ?_
  refine lv_iconst (v := 4) hx hb dX0_init_5 (by decide) ?_
  refine x_newa (atype := .int) (L := 4) hx hb (hts _ tw60) 0 (by decide) rfl hK hH hS [11, c, 1] (by simp [hn0]) (by omega) rfl (by rfl) (by decide) (Nat.le_of_ble_eq_true rfl) (Nat.le_of_ble_eq_true rfl) dX0_init_6 (fun H hH hS => ?_)
  obtain ⟨I1_, hI1_⟩ : ∃ z, z = upR I [11, c, 1] (fun _ => (0 : Int32)) := ⟨_, rfl⟩
  obtain ⟨F1_, hF1_⟩ : ∃ z, z = upR F [11, c, 1] (fun _ => (none : Option (List Nat))) := ⟨_, rfl⟩
  rw [← hI1_, ← hF1_] at hH
  obtain ⟨F2_, hF2_⟩ : ∃ z, z = up F1_ [11, c, 0] 1 (some [11, c, 1]) := ⟨_, rfl⟩
  refine x_put (C := RX0) (T := TX0) (N := 11) (ci := 0) hx hb hts iu0 tyX0 tyX0_ok nmX0 hown hK hH hS (id := [11, c, 0]) (Or.inr (hd)) rfl rfl (by decide) 1 (by decide) (hts _ tw92) (fun _ h9 => h9) (Or.inr ⟨rfl, hnm, rfl⟩) (ty := (.array .int)) (v := .ref (ga g [11, c, 1])) (by decide +kernel) rfl rfl (I' := I1_) (F' := F2_) (fun _ _ => rfl) (fun i hi => by rw [hF2_]; exact up_id hi) (fun j9 => by rw [hF2_, up_row]; exact xv_updq (ci := 0) (k := 1) (x := (some [11, c, 1])) rfl j9) dX0_init_8 (fun H locs hH hS => ?_)
  refine lv_aload_n hx hb dX0_init_11 rfl (lv_at hl 0 rfl) ?_
  refine lv_bipush (v := 8) hx hb dX0_init_12 (by decide) ?_
  refine x_newa (atype := .char) (L := 8) hx hb (hts _ tw130) 1 (by decide) rfl hK hH hS [11, c, 2] (by simp [hn1]) (by omega) rfl (by rfl) (by decide) (Nat.le_of_ble_eq_true rfl) (Nat.le_of_ble_eq_true rfl) dX0_init_14 (fun H hH hS => ?_)
  obtain ⟨I3_, hI3_⟩ : ∃ z, z = upR I1_ [11, c, 2] (fun _ => (0 : Int32)) := ⟨_, rfl⟩
  obtain ⟨F3_, hF3_⟩ : ∃ z, z = upR F2_ [11, c, 2] (fun _ => (none : Option (List Nat))) := ⟨_, rfl⟩
  rw [← hI3_, ← hF3_] at hH
  obtain ⟨F4_, hF4_⟩ : ∃ z, z = up F3_ [11, c, 0] 2 (some [11, c, 2]) := ⟨_, rfl⟩
  refine x_put (C := RX0) (T := TX0) (N := 11) (ci := 0) hx hb hts iu0 tyX0 tyX0_ok nmX0 hown hK hH hS (id := [11, c, 0]) (Or.inr (Or.inr (hd))) rfl rfl (by decide) 2 (by decide) (hts _ tw93) (fun _ h9 => h9) (Or.inr ⟨rfl, hnm, rfl⟩) (ty := (.array .char)) (v := .ref (ga g [11, c, 2])) (by decide +kernel) rfl rfl (I' := I3_) (F' := F4_) (fun _ _ => rfl) (fun i hi => by rw [hF4_]; exact up_id hi) (fun j9 => by rw [hF4_, up_row]; exact xv_updq (ci := 0) (k := 2) (x := (some [11, c, 2])) rfl j9) dX0_init_16 (fun H locs hH hS => ?_)
  refine lv_aload_n hx hb dX0_init_19 rfl (lv_at hl 0 rfl) ?_
  refine lv_bipush (v := 8) hx hb dX0_init_20 (by decide) ?_
  refine x_newa (atype := .char) (L := 8) hx hb (hts _ tw130) 1 (by decide) rfl hK hH hS [11, c, 3] (by simp [hn2]) (by omega) rfl (by rfl) (by decide) (Nat.le_of_ble_eq_true rfl) (Nat.le_of_ble_eq_true rfl) dX0_init_22 (fun H hH hS => ?_)
  obtain ⟨I5_, hI5_⟩ : ∃ z, z = upR I3_ [11, c, 3] (fun _ => (0 : Int32)) := ⟨_, rfl⟩
  obtain ⟨F5_, hF5_⟩ : ∃ z, z = upR F4_ [11, c, 3] (fun _ => (none : Option (List Nat))) := ⟨_, rfl⟩
  rw [← hI5_, ← hF5_] at hH
  obtain ⟨F6_, hF6_⟩ : ∃ z, z = up F5_ [11, c, 0] 3 (some [11, c, 3]) := ⟨_, rfl⟩
  refine x_put (C := RX0) (T := TX0) (N := 11) (ci := 0) hx hb hts iu0 tyX0 tyX0_ok nmX0 hown hK hH hS (id := [11, c, 0]) (Or.inr (Or.inr (Or.inr (hd)))) rfl rfl (by decide) 3 (by decide) (hts _ tw94) (fun _ h9 => h9) (Or.inr ⟨rfl, hnm, rfl⟩) (ty := (.array .char)) (v := .ref (ga g [11, c, 3])) (by decide +kernel) rfl rfl (I' := I5_) (F' := F6_) (fun _ _ => rfl) (fun i hi => by rw [hF6_]; exact up_id hi) (fun j9 => by rw [hF6_, up_row]; exact xv_updq (ci := 0) (k := 3) (x := (some [11, c, 3])) rfl j9) dX0_init_24 (fun H locs hH hS => ?_)
  refine lv_aload_n hx hb dX0_init_27 rfl (lv_at hl 0 rfl) ?_
  refine lv_bipush (v := 8) hx hb dX0_init_28 (by decide) ?_
  refine x_newa (atype := .int) (L := 8) hx hb (hts _ tw60) 0 (by decide) rfl hK hH hS [11, c, 4] (by simp [hn3]) (by omega) rfl (by rfl) (by decide) (Nat.le_of_ble_eq_true rfl) (Nat.le_of_ble_eq_true rfl) dX0_init_30 (fun H hH hS => ?_)
  obtain ⟨I7_, hI7_⟩ : ∃ z, z = upR I5_ [11, c, 4] (fun _ => (0 : Int32)) := ⟨_, rfl⟩
  obtain ⟨F7_, hF7_⟩ : ∃ z, z = upR F6_ [11, c, 4] (fun _ => (none : Option (List Nat))) := ⟨_, rfl⟩
  rw [← hI7_, ← hF7_] at hH
  obtain ⟨F8_, hF8_⟩ : ∃ z, z = up F7_ [11, c, 0] 4 (some [11, c, 4]) := ⟨_, rfl⟩
  refine x_put (C := RX0) (T := TX0) (N := 11) (ci := 0) hx hb hts iu0 tyX0 tyX0_ok nmX0 hown hK hH hS (id := [11, c, 0]) (Or.inr (Or.inr (Or.inr (Or.inr (hd))))) rfl rfl (by decide) 4 (by decide) (hts _ tw95) (fun _ h9 => h9) (Or.inr ⟨rfl, hnm, rfl⟩) (ty := (.array .int)) (v := .ref (ga g [11, c, 4])) (by decide +kernel) rfl rfl (I' := I7_) (F' := F8_) (fun _ _ => rfl) (fun i hi => by rw [hF8_]; exact up_id hi) (fun j9 => by rw [hF8_, up_row]; exact xv_updq (ci := 0) (k := 4) (x := (some [11, c, 4])) rfl j9) dX0_init_32 (fun H locs hH hS => ?_)
  refine lv_aload_n hx hb dX0_init_35 rfl (lv_at hl 0 rfl) ?_
  refine lv_bipush (v := 8) hx hb dX0_init_36 (by decide) ?_
  refine x_newa (atype := .int) (L := 8) hx hb (hts _ tw60) 0 (by decide) rfl hK hH hS [11, c, 5] (by simp [hn4]) (by omega) rfl (by rfl) (by decide) (Nat.le_of_ble_eq_true rfl) (Nat.le_of_ble_eq_true rfl) dX0_init_38 (fun H hH hS => ?_)
  obtain ⟨I9_, hI9_⟩ : ∃ z, z = upR I7_ [11, c, 5] (fun _ => (0 : Int32)) := ⟨_, rfl⟩
  obtain ⟨F9_, hF9_⟩ : ∃ z, z = upR F8_ [11, c, 5] (fun _ => (none : Option (List Nat))) := ⟨_, rfl⟩
  rw [← hI9_, ← hF9_] at hH
  obtain ⟨F10_, hF10_⟩ : ∃ z, z = up F9_ [11, c, 0] 5 (some [11, c, 5]) := ⟨_, rfl⟩
  refine x_put (C := RX0) (T := TX0) (N := 11) (ci := 0) hx hb hts iu0 tyX0 tyX0_ok nmX0 hown hK hH hS (id := [11, c, 0]) (Or.inr (Or.inr (Or.inr (Or.inr (Or.inr (hd)))))) rfl rfl (by decide) 5 (by decide) (hts _ tw96) (fun _ h9 => h9) (Or.inr ⟨rfl, hnm, rfl⟩) (ty := (.array .int)) (v := .ref (ga g [11, c, 5])) (by decide +kernel) rfl rfl (I' := I9_) (F' := F10_) (fun _ _ => rfl) (fun i hi => by rw [hF10_]; exact up_id hi) (fun j9 => by rw [hF10_, up_row]; exact xv_updq (ci := 0) (k := 5) (x := (some [11, c, 5])) rfl j9) dX0_init_40 (fun H locs hH hS => ?_)
  refine lv_aload_n hx hb dX0_init_43 rfl (lv_at hl 0 rfl) ?_
  refine lv_iconst (v := 0) hx hb dX0_init_44 (by decide) ?_
  obtain ⟨I11_, hI11_⟩ : ∃ z, z = up I9_ [11, c, 0] 6 0 := ⟨_, rfl⟩
  refine x_put (C := RX0) (T := TX0) (N := 11) (ci := 0) hx hb hts iu0 tyX0 tyX0_ok nmX0 hown hK hH hS (id := [11, c, 0]) (Or.inr (Or.inr (Or.inr (Or.inr (Or.inr (hd)))))) rfl rfl (by decide) 6 (by decide) (hts _ tw97) (fun _ h9 => h9) (Or.inl rfl) (ty := .int) (v := .int 0) (by decide +kernel) rfl rfl (I' := I11_) (F' := F10_) (fun i hi => by rw [hI11_]; exact up_id hi) (fun _ _ => rfl) (fun j9 => by rw [hI11_, up_row]; exact xv_upd (ci := 0) (k := 6) rfl j9) dX0_init_45 (fun H locs hH hS => ?_)
  refine lv_aload_n hx hb dX0_init_48 rfl (lv_at hl 0 rfl) ?_
  refine lv_iconst (v := 0) hx hb dX0_init_49 (by decide) ?_
  obtain ⟨I12_, hI12_⟩ : ∃ z, z = up I11_ [11, c, 0] 7 0 := ⟨_, rfl⟩
  refine x_put (C := RX0) (T := TX0) (N := 11) (ci := 0) hx hb hts iu0 tyX0 tyX0_ok nmX0 hown hK hH hS (id := [11, c, 0]) (Or.inr (Or.inr (Or.inr (Or.inr (Or.inr (hd)))))) rfl rfl (by decide) 7 (by decide) (hts _ tw99) (fun _ h9 => h9) (Or.inl rfl) (ty := .boolean) (v := .int 0) (by decide +kernel) rfl rfl (I' := I12_) (F' := F10_) (fun i hi => by rw [hI12_]; exact up_id hi) (fun _ _ => rfl) (fun j9 => by rw [hI12_, up_row]; exact xv_upd (ci := 0) (k := 7) rfl j9) dX0_init_50 (fun H locs hH hS => ?_)
  refine lv_aload_n hx hb dX0_init_53 rfl (lv_at hl 0 rfl) ?_
  refine lv_iconst (v := (-1)) hx hb dX0_init_54 (by decide) ?_
  obtain ⟨I13_, hI13_⟩ : ∃ z, z = up I12_ [11, c, 0] 8 (-1) := ⟨_, rfl⟩
  refine x_put (C := RX0) (T := TX0) (N := 11) (ci := 0) hx hb hts iu0 tyX0 tyX0_ok nmX0 hown hK hH hS (id := [11, c, 0]) (Or.inr (Or.inr (Or.inr (Or.inr (Or.inr (hd)))))) rfl rfl (by decide) 8 (by decide) (hts _ tw101) (fun _ h9 => h9) (Or.inl rfl) (ty := .int) (v := .int (-1)) (by decide +kernel) rfl rfl (I' := I13_) (F' := F10_) (fun i hi => by rw [hI13_]; exact up_id hi) (fun _ _ => rfl) (fun j9 => by rw [hI13_, up_row]; exact xv_upd (ci := 0) (k := 8) rfl j9) dX0_init_55 (fun H locs hH hS => ?_)
  refine lv_aload_n hx hb dX0_init_58 rfl (lv_at hl 0 rfl) ?_
  refine lv_iconst (v := 0) hx hb dX0_init_59 (by decide) ?_
  obtain ⟨I14_, hI14_⟩ : ∃ z, z = up I13_ [11, c, 0] 9 0 := ⟨_, rfl⟩
  refine x_put (C := RX0) (T := TX0) (N := 11) (ci := 0) hx hb hts iu0 tyX0 tyX0_ok nmX0 hown hK hH hS (id := [11, c, 0]) (Or.inr (Or.inr (Or.inr (Or.inr (Or.inr (hd)))))) rfl rfl (by decide) 9 (by decide) (hts _ tw103) (fun _ h9 => h9) (Or.inl rfl) (ty := .int) (v := .int 0) (by decide +kernel) rfl rfl (I' := I14_) (F' := F10_) (fun i hi => by rw [hI14_]; exact up_id hi) (fun _ _ => rfl) (fun j9 => by rw [hI14_, up_row]; exact xv_upd (ci := 0) (k := 9) rfl j9) dX0_init_60 (fun H locs hH hS => ?_)
  refine lv_aload_n hx hb dX0_init_63 rfl (lv_at hl 0 rfl) ?_
  refine lv_iconst (v := 0) hx hb dX0_init_64 (by decide) ?_
  obtain ⟨I15_, hI15_⟩ : ∃ z, z = up I14_ [11, c, 0] 10 0 := ⟨_, rfl⟩
  refine x_put (C := RX0) (T := TX0) (N := 11) (ci := 0) hx hb hts iu0 tyX0 tyX0_ok nmX0 hown hK hH hS (id := [11, c, 0]) (Or.inr (Or.inr (Or.inr (Or.inr (Or.inr (hd)))))) rfl rfl (by decide) 10 (by decide) (hts _ tw105) (fun _ h9 => h9) (Or.inl rfl) (ty := .int) (v := .int 0) (by decide +kernel) rfl rfl (I' := I15_) (F' := F10_) (fun i hi => by rw [hI15_]; exact up_id hi) (fun _ _ => rfl) (fun j9 => by rw [hI15_, up_row]; exact xv_upd (ci := 0) (k := 10) rfl j9) dX0_init_65 (fun H locs hH hS => ?_)
  refine lv_aload_n hx hb dX0_init_68 rfl (lv_at hl 0 rfl) ?_
  refine lv_aload_n hx hb dX0_init_69 rfl (lv_at hl 1 rfl) ?_
  obtain ⟨F16_, hF16_⟩ : ∃ z, z = up F10_ [11, c, 0] 0 (some [5, q]) := ⟨_, rfl⟩
  refine x_put (C := RX0) (T := TX0) (N := 11) (ci := 0) hx hb hts iu0 tyX0 tyX0_ok nmX0 hown hK hH hS (id := [11, c, 0]) (Or.inr (Or.inr (Or.inr (Or.inr (Or.inr (hd)))))) rfl rfl (by decide) 0 (by decide) (hts _ tw90) (fun _ h9 => h9) (Or.inl rfl) (ty := (.object "CasebookSteps$Plan")) (v := .ref (ga g [5, q])) (by decide +kernel) rfl rfl (I' := I15_) (F' := F16_) (fun _ _ => rfl) (fun i hi => by rw [hF16_]; exact up_id hi) (fun j9 => by rw [hF16_, up_row]; exact xv_updq (ci := 0) (k := 0) (x := (some [5, q])) rfl j9) dX0_init_70 (fun H locs hH hS => ?_)
  exact x_vret hx hb hr hlocks hS dX0_init_73 (hH.congr (g' := g) (fun _ hi => hi) (fun i _ => by rw [hI15_, hI14_, hI13_, hI12_, hI11_, hI9_, hI7_, hI5_, hI3_, hI1_]; funext q; by_cases e0 : i = [11, c, 0]; (rw [e0]; simp [up, upR, r0, q0, q1, q2, rC, rS, rP, rK, h0, hz, qK]); by_cases e1 : i = [11, c, 1]; (rw [e1]; simp [up, upR, r0, q0, q1, q2, rC, rS, rP, rK, h0, hz, qK]); by_cases e2 : i = [11, c, 2]; (rw [e2]; simp [up, upR, r0, q0, q1, q2, rC, rS, rP, rK, h0, hz, qK]); by_cases e3 : i = [11, c, 3]; (rw [e3]; simp [up, upR, r0, q0, q1, q2, rC, rS, rP, rK, h0, hz, qK]); by_cases e4 : i = [11, c, 4]; (rw [e4]; simp [up, upR, r0, q0, q1, q2, rC, rS, rP, rK, h0, hz, qK]); by_cases e5 : i = [11, c, 5]; (rw [e5]; simp [up, upR, r0, q0, q1, q2, rC, rS, rP, rK, h0, hz, qK]); simp [up, upR, e0, e1, e2, e3, e4, e5]) (fun i _ => by rw [hF16_, hF10_, hF9_, hF8_, hF7_, hF6_, hF5_, hF4_, hF3_, hF2_, hF1_]; funext q; by_cases e0 : i = [11, c, 0]; (rw [e0]; simp [up, upR, r0, q0, q1, q2, rC, rS, rP, rK, h0, hz, qK]); by_cases e1 : i = [11, c, 1]; (rw [e1]; simp [up, upR, r0, q0, q1, q2, rC, rS, rP, rK, h0, hz, qK]); by_cases e2 : i = [11, c, 2]; (rw [e2]; simp [up, upR, r0, q0, q1, q2, rC, rS, rP, rK, h0, hz, qK]); by_cases e3 : i = [11, c, 3]; (rw [e3]; simp [up, upR, r0, q0, q1, q2, rC, rS, rP, rK, h0, hz, qK]); by_cases e4 : i = [11, c, 4]; (rw [e4]; simp [up, upR, r0, q0, q1, q2, rC, rS, rP, rK, h0, hz, qK]); by_cases e5 : i = [11, c, 5]; (rw [e5]; simp [up, upR, r0, q0, q1, q2, rC, rS, rP, rK, h0, hz, qK]); simp [up, upR, e0, e1, e2, e3, e4, e5]))

set_option maxHeartbeats 1000000 in
set_option maxRecDepth 100000 in
theorem c_X6_init (l : Launch) (g : xG) (dm : List Nat → Prop) (I : xI) (F : xF) (n : Nat)  (hd : dm [0]) (h0 : I [0] = fun _ => 0) (hz : F [0] = fun _ => none) (hn0 : ¬ dm [1]) (ha0 : ga g [1] = n) (hn1 : ¬ dm [2]) (ha1 : ga g [2] = n + 1) (hn2 : ¬ dm [3]) (ha2 : ga g [3] = n + 2) (hn3 : ¬ dm [4, 0]) (ha3 : ga g [4, 0] = n + 3) (hn4 : ¬ dm [4, 1]) (ha4 : ga g [4, 1] = n + 4) (hn5 : ¬ dm [4, 2]) (ha5 : ga g [4, 2] = n + 5) (hn6 : ¬ dm [4, 3]) (ha6 : ga g [4, 3] = n + 6) (hn7 : ¬ dm [11, 4, 0]) (ha7 : ga g [11, 4, 0] = n + 7) (hn8 : ¬ dm [5, 3]) (ha8 : ga g [5, 3] = n + 8) (hn9 : ¬ dm [6, 3]) (ha9 : ga g [6, 3] = n + 9) (hn10 : ¬ dm [11, 4, 1]) (ha10 : ga g [11, 4, 1] = n + 10) (hn11 : ¬ dm [11, 4, 2]) (ha11 : ga g [11, 4, 2] = n + 11) (hn12 : ¬ dm [11, 4, 3]) (ha12 : ga g [11, 4, 3] = n + 12) (hn13 : ¬ dm [11, 4, 4]) (ha13 : ga g [11, 4, 4] = n + 13) (hn14 : ¬ dm [11, 4, 5]) (ha14 : ga g [11, 4, 5] = n + 14) : xM l yX6_init (xws yX6_init cX6_init 1 none) 2 33 g [.ref (ga g [0])] (xR g dm I F n) none (xR g (fun i => i = [11, 4, 5] ∨ (fun i => i = [11, 4, 4] ∨ (fun i => i = [11, 4, 3] ∨ (fun i => i = [11, 4, 2] ∨ (fun i => i = [11, 4, 1] ∨ (fun i => i = [6, 3] ∨ (fun i => i = [5, 3] ∨ (fun i => i = [11, 4, 0] ∨ (fun i => i = [4, 3] ∨ (fun i => i = [4, 2] ∨ (fun i => i = [4, 1] ∨ (fun i => i = [4, 0] ∨ (fun i => i = [3] ∨ (fun i => i = [2] ∨ (fun i => i = [1] ∨ dm i) i) i) i) i) i) i) i) i) i) i) i) i) i) i) (upR (upR (upR (upR (upR (upR (upR (upR (upR (upR (upR (upR (upR (upR (upR (upR I [0] r0) [1] r0) [2] r0) [3] r0) [4, 0] r0) [4, 1] r0) [4, 2] r0) [4, 3] r0) [11, 4, 0] rK) [5, 3] (rP (-1))) [6, 3] r0) [11, 4, 1] r0) [11, 4, 2] r0) [11, 4, 3] r0) [11, 4, 4] r0) [11, 4, 5] r0) (upR (upR (upR (upR (upR (upR (upR (upR (upR (upR (upR (upR (upR (upR (upR (upR F [0] qM) [1] q0) [2] q0) [3] qJ) [4, 0] q0) [4, 1] q0) [4, 2] q0) [4, 3] q0) [11, 4, 0] (qK 4 [5, 3])) [5, 3] (q1 1 [6, 3])) [6, 3] q0) [11, 4, 1] q0) [11, 4, 2] q0) [11, 4, 3] q0) [11, 4, 4] q0) [11, 4, 5] q0) (((((((((((((((n + 1) + 1) + 1) + 1) + 1) + 1) + 1) + 1) + 1) + 1) + 1) + 1) + 1) + 1) + 1)) 15 2119 := by
  refine xM.of (by decide) (Nat.le_of_ble_eq_true rfl) ?_
  intro P_ e_ s m_ bl_ mt_ cd_ ls hx hb hr hown hlocks hml hnm hE hK hts hH hS hl
  have hl : lv_has ls 1 [(0, .ref (ga g [0]))] := hl
  refine lv_aload_n hx hb dX6_init_0 rfl (lv_at hl 0 rfl) ?_
  refine W.objInit hx hb hown (hts _ tw26) (hts _ tw27) (hts _ tw28) rfl (hl.1.trans hml.symm) rfl dX6_init_1 (Nat.le_of_ble_eq_true rfl) (Nat.le_of_ble_eq_true rfl) ?_
  refine lv_aload_n hx hb dX6_init_4 rfl (lv_at hl 0 rfl) ?_
  refine lv_iconst (v := 3) hx hb dX6_init_5 (by decide) ?_
  refine x_anew (L := 3) (C := "CasebookSteps$Plan") hx hb hown (hts _ tw29) (va_AO.use (hE.2.2.1 _ (List.mem_of_getElem? (i := 0) rfl))) 3 (by decide) rfl hK hH hS [1] (by simp [hn0]) (by omega) rfl (by rfl) (by decide) (Nat.le_of_ble_eq_true rfl) (Nat.le_of_ble_eq_true rfl) dX6_init_6 (fun H hH hS => ?_)
  obtain ⟨I1_, hI1_⟩ : ∃ z, z = upR I [1] (fun _ => (0 : Int32)) := ⟨_, rfl⟩
  obtain ⟨F1_, hF1_⟩ : ∃ z, z = upR F [1] (fun _ => (none : Option (List Nat))) := ⟨_, rfl⟩
  rw [← hI1_, ← hF1_] at hH
  obtain ⟨F2_, hF2_⟩ : ∃ z, z = up F1_ [0] 0 (some [1]) := ⟨_, rfl⟩
  refine x_put (C := RX6) (T := TX6) (N := 6) (ci := 6) hx hb hts iu6 tyX6 tyX6_ok nmX6 hown hK hH hS (id := [0]) (Or.inr (hd)) rfl rfl (by decide) 0 (by decide) (hts _ tw131) (fun _ h9 => h9) (Or.inr ⟨rfl, hnm, rfl⟩) (ty := (.array (.object "CasebookSteps$Plan"))) (v := .ref (ga g [1])) (by decide +kernel) rfl rfl (I' := I1_) (F' := F2_) (fun _ _ => rfl) (fun i hi => by rw [hF2_]; exact up_id hi) (fun j9 => by rw [hF2_, up_row]; exact xv_updq (ci := 6) (k := 0) (x := (some [1])) rfl j9) dX6_init_9 (fun H locs hH hS => ?_)
  refine lv_aload_n hx hb dX6_init_12 rfl (lv_at hl 0 rfl) ?_
  refine lv_iconst (v := 0) hx hb dX6_init_13 (by decide) ?_
  obtain ⟨I3_, hI3_⟩ : ∃ z, z = up I1_ [0] 1 0 := ⟨_, rfl⟩
  refine x_put (C := RX6) (T := TX6) (N := 6) (ci := 6) hx hb hts iu6 tyX6 tyX6_ok nmX6 hown hK hH hS (id := [0]) (Or.inr (hd)) rfl rfl (by decide) 1 (by decide) (hts _ tw132) (fun _ h9 => h9) (Or.inl rfl) (ty := .int) (v := .int 0) (by decide +kernel) rfl rfl (I' := I3_) (F' := F2_) (fun i hi => by rw [hI3_]; exact up_id hi) (fun _ _ => rfl) (fun j9 => by rw [hI3_, up_row]; exact xv_upd (ci := 6) (k := 1) rfl j9) dX6_init_14 (fun H locs hH hS => ?_)
  refine lv_aload_n hx hb dX6_init_17 rfl (lv_at hl 0 rfl) ?_
  refine lv_iconst (v := 4) hx hb dX6_init_18 (by decide) ?_
  refine x_anew (L := 4) (C := "CasebookSteps$Case") hx hb hown (hts _ tw31) (va_AO.use (hE.2.2.1 _ (List.mem_of_getElem? (i := 1) rfl))) 4 (by decide) rfl hK hH hS [2] (by simp [hn1]) (by omega) rfl (by rfl) (by decide) (Nat.le_of_ble_eq_true rfl) (Nat.le_of_ble_eq_true rfl) dX6_init_19 (fun H hH hS => ?_)
  obtain ⟨I4_, hI4_⟩ : ∃ z, z = upR I3_ [2] (fun _ => (0 : Int32)) := ⟨_, rfl⟩
  obtain ⟨F4_, hF4_⟩ : ∃ z, z = upR F2_ [2] (fun _ => (none : Option (List Nat))) := ⟨_, rfl⟩
  rw [← hI4_, ← hF4_] at hH
  obtain ⟨F5_, hF5_⟩ : ∃ z, z = up F4_ [0] 2 (some [2]) := ⟨_, rfl⟩
  refine x_put (C := RX6) (T := TX6) (N := 6) (ci := 6) hx hb hts iu6 tyX6 tyX6_ok nmX6 hown hK hH hS (id := [0]) (Or.inr (Or.inr (hd))) rfl rfl (by decide) 2 (by decide) (hts _ tw133) (fun _ h9 => h9) (Or.inr ⟨rfl, hnm, rfl⟩) (ty := (.array (.object "CasebookSteps$Case"))) (v := .ref (ga g [2])) (by decide +kernel) rfl rfl (I' := I4_) (F' := F5_) (fun _ _ => rfl) (fun i hi => by rw [hF5_]; exact up_id hi) (fun j9 => by rw [hF5_, up_row]; exact xv_updq (ci := 6) (k := 2) (x := (some [2])) rfl j9) dX6_init_22 (fun H locs hH hS => ?_)
  refine lv_aload_n hx hb dX6_init_25 rfl (lv_at hl 0 rfl) ?_
  refine lv_iconst (v := 0) hx hb dX6_init_26 (by decide) ?_
  obtain ⟨I6_, hI6_⟩ : ∃ z, z = up I4_ [0] 3 0 := ⟨_, rfl⟩
  refine x_put (C := RX6) (T := TX6) (N := 6) (ci := 6) hx hb hts iu6 tyX6 tyX6_ok nmX6 hown hK hH hS (id := [0]) (Or.inr (Or.inr (hd))) rfl rfl (by decide) 3 (by decide) (hts _ tw134) (fun _ h9 => h9) (Or.inl rfl) (ty := .int) (v := .int 0) (by decide +kernel) rfl rfl (I' := I6_) (F' := F5_) (fun i hi => by rw [hI6_]; exact up_id hi) (fun _ _ => rfl) (fun j9 => by rw [hI6_, up_row]; exact xv_upd (ci := 6) (k := 3) rfl j9) dX6_init_27 (fun H locs hH hS => ?_)
  refine lv_aload_n hx hb dX6_init_30 rfl (lv_at hl 0 rfl) ?_
  refine x_new (C := RX3) (T := TX3) (N := 5) (ci := 3) hx hb hts iu3 tyX3 tyX3_ok hown (hts _ tw33) (hts _ tw34) (hts _ tw2) hK hH hS [3] (by simp [hn2]) (by omega) rfl (by decide) rfl (df3 _) (Nat.le_of_ble_eq_true rfl) (Nat.le_of_ble_eq_true rfl) dX6_init_31 (fun H hH hS => ?_)
  obtain ⟨I7_, hI7_⟩ : ∃ z, z = upR I6_ [3] (fun _ => (0 : Int32)) := ⟨_, rfl⟩
  obtain ⟨F7_, hF7_⟩ : ∃ z, z = upR F5_ [3] (fun _ => (none : Option (List Nat))) := ⟨_, rfl⟩
  rw [← hI7_, ← hF7_] at hH
  refine lv_dup hx hb dX6_init_34 rfl ?_
  refine x_I0N hx hb hml hown hE hS hl.1 cyX3_init (host := "CasebookSteps") (by first | exact List.mem_cons_self | exact List.mem_cons_of_mem _ List.mem_cons_self | exact List.mem_cons_of_mem _ (List.mem_cons_of_mem _ List.mem_cons_self)) (c_X3_init l g (fun i => i = [3] ∨ (fun i => i = [2] ∨ (fun i => i = [1] ∨ dm i) i) i) I7_ F7_ ((((n + 1) + 1) + 1))  (Or.inl rfl) (by first | (rw [hI7_, hI6_, hI4_, hI3_, hI1_]; simp [upR]) | simp [upR]) (by first | (rw [hF7_, hF5_, hF4_, hF2_, hF1_]; simp [upR, up]) | simp [upR]) (by simp [hn3]) (by omega) (by simp [hn4]) (by omega) (by simp [hn5]) (by omega) (by simp [hn6]) (by omega)) ⟨Nat.le_of_ble_eq_true rfl, Nat.le_of_ble_eq_true rfl⟩ ⟨Nat.le_of_ble_eq_true rfl, Nat.le_of_ble_eq_true rfl⟩ hH rfl rfl (Nat.le_of_ble_eq_true rfl) dX6_init_35 (fun H locs hH hS => ?_)
  obtain ⟨I8_, hI8_⟩ : ∃ z, z = (upR (upR (upR (upR (upR I7_ [3] r0) [4, 0] r0) [4, 1] r0) [4, 2] r0) [4, 3] r0) := ⟨_, rfl⟩
  obtain ⟨F8_, hF8_⟩ : ∃ z, z = (upR (upR (upR (upR (upR F7_ [3] qJ) [4, 0] q0) [4, 1] q0) [4, 2] q0) [4, 3] q0) := ⟨_, rfl⟩
  rw [← hI8_, ← hF8_] at hH
  obtain ⟨F9_, hF9_⟩ : ∃ z, z = up F8_ [0] 4 (some [3]) := ⟨_, rfl⟩
  refine x_put (C := RX6) (T := TX6) (N := 6) (ci := 6) hx hb hts iu6 tyX6 tyX6_ok nmX6 hown hK hH hS (id := [0]) (Or.inr (Or.inr (Or.inr (Or.inr (Or.inr (Or.inr (Or.inr (hd)))))))) rfl rfl (by decide) 4 (by decide) (hts _ tw135) (fun _ h9 => h9) (Or.inr ⟨rfl, hnm, rfl⟩) (ty := (.object "CasebookSteps$Journal")) (v := .ref (ga g [3])) (by decide +kernel) rfl rfl (I' := I8_) (F' := F9_) (fun _ _ => rfl) (fun i hi => by rw [hF9_]; exact up_id hi) (fun j9 => by rw [hF9_, up_row]; exact xv_updq (ci := 6) (k := 4) (x := (some [3])) rfl j9) dX6_init_38 (fun H locs hH hS => ?_)
  refine lv_aload_n hx hb dX6_init_41 rfl (lv_at hl 0 rfl) ?_
  refine x_new (C := RX0) (T := TX0) (N := 11) (ci := 0) hx hb hts iu0 tyX0 tyX0_ok hown (hts _ tw31) (hts _ tw61) (hts _ tw3) hK hH hS [11, 4, 0] (by simp [hn7]) (by omega) rfl (by decide) rfl (df0 _) (Nat.le_of_ble_eq_true rfl) (Nat.le_of_ble_eq_true rfl) dX6_init_42 (fun H hH hS => ?_)
  obtain ⟨I10_, hI10_⟩ : ∃ z, z = upR I8_ [11, 4, 0] (fun _ => (0 : Int32)) := ⟨_, rfl⟩
  obtain ⟨F10_, hF10_⟩ : ∃ z, z = upR F9_ [11, 4, 0] (fun _ => (none : Option (List Nat))) := ⟨_, rfl⟩
  rw [← hI10_, ← hF10_] at hH
  refine lv_dup hx hb dX6_init_45 rfl ?_
  refine x_new (C := RX4) (T := TX4) (N := 4) (ci := 4) hx hb hts iu4 tyX4 tyX4_ok hown (hts _ tw29) (hts _ tw62) (hts _ tw4) hK hH hS [5, 3] (by simp [hn8]) (by omega) rfl (by decide) rfl (df4 _) (Nat.le_of_ble_eq_true rfl) (Nat.le_of_ble_eq_true rfl) dX6_init_46 (fun H hH hS => ?_)
  obtain ⟨I11_, hI11_⟩ : ∃ z, z = upR I10_ [5, 3] (fun _ => (0 : Int32)) := ⟨_, rfl⟩
  obtain ⟨F11_, hF11_⟩ : ∃ z, z = upR F10_ [5, 3] (fun _ => (none : Option (List Nat))) := ⟨_, rfl⟩
  rw [← hI11_, ← hF11_] at hH
  refine lv_dup hx hb dX6_init_49 rfl ?_
  refine lv_iconst (v := (-1)) hx hb dX6_init_50 (by decide) ?_
  refine x_I0 hx hb hml hown hE hS hl.1 cyX4_init tw63 (c_X4_init l g (fun i => i = [5, 3] ∨ (fun i => i = [11, 4, 0] ∨ (fun i => i = [4, 3] ∨ (fun i => i = [4, 2] ∨ (fun i => i = [4, 1] ∨ (fun i => i = [4, 0] ∨ (fun i => i = [3] ∨ (fun i => i = [2] ∨ (fun i => i = [1] ∨ dm i) i) i) i) i) i) i) i) i) I11_ F11_ ((((((((((n + 1) + 1) + 1) + 1) + 1) + 1) + 1) + 1) + 1)) 3 (-1) (Or.inl rfl) (by first | (rw [hI11_, hI10_, hI8_, hI7_, hI6_, hI4_, hI3_, hI1_]; simp [upR]) | simp [upR]) (by first | (rw [hF11_, hF10_, hF9_, hF8_, hF7_, hF5_, hF4_, hF2_, hF1_]; simp [upR, up]) | simp [upR]) (by simp [hn9]) (by omega)) ⟨Nat.le_of_ble_eq_true rfl, Nat.le_of_ble_eq_true rfl⟩ ⟨Nat.le_of_ble_eq_true rfl, Nat.le_of_ble_eq_true rfl⟩ hH rfl rfl (Nat.le_of_ble_eq_true rfl) dX6_init_51 (fun H locs hH hS => ?_)
  obtain ⟨I12_, hI12_⟩ : ∃ z, z = (upR (upR I11_ [5, 3] (rP (-1))) [6, 3] r0) := ⟨_, rfl⟩
  obtain ⟨F12_, hF12_⟩ : ∃ z, z = (upR (upR F11_ [5, 3] (q1 1 [6, 3])) [6, 3] q0) := ⟨_, rfl⟩
  rw [← hI12_, ← hF12_] at hH
  refine x_I0 hx hb hml hown hE hS hl.1 cyX0_init tw86 (c_X0_init l g (fun i => i = [6, 3] ∨ (fun i => i = [5, 3] ∨ (fun i => i = [11, 4, 0] ∨ (fun i => i = [4, 3] ∨ (fun i => i = [4, 2] ∨ (fun i => i = [4, 1] ∨ (fun i => i = [4, 0] ∨ (fun i => i = [3] ∨ (fun i => i = [2] ∨ (fun i => i = [1] ∨ dm i) i) i) i) i) i) i) i) i) i) I12_ F12_ (((((((((((n + 1) + 1) + 1) + 1) + 1) + 1) + 1) + 1) + 1) + 1)) 4 (by decide) 3 (Or.inr (Or.inl rfl)) (Or.inr (Or.inr (Or.inl rfl))) (by first | (rw [hI12_, hI11_, hI10_, hI8_, hI7_, hI6_, hI4_, hI3_, hI1_]; simp [upR]) | simp [upR]) (by first | (rw [hF12_, hF11_, hF10_, hF9_, hF8_, hF7_, hF5_, hF4_, hF2_, hF1_]; simp [upR, up]) | simp [upR]) (by simp [hn10]) (by omega) (by simp [hn11]) (by omega) (by simp [hn12]) (by omega) (by simp [hn13]) (by omega) (by simp [hn14]) (by omega)) ⟨Nat.le_of_ble_eq_true rfl, Nat.le_of_ble_eq_true rfl⟩ ⟨Nat.le_of_ble_eq_true rfl, Nat.le_of_ble_eq_true rfl⟩ hH rfl rfl (Nat.le_of_ble_eq_true rfl) dX6_init_54 (fun H locs hH hS => ?_)
  obtain ⟨I13_, hI13_⟩ : ∃ z, z = (upR (upR (upR (upR (upR (upR I12_ [11, 4, 0] rK) [11, 4, 1] r0) [11, 4, 2] r0) [11, 4, 3] r0) [11, 4, 4] r0) [11, 4, 5] r0) := ⟨_, rfl⟩
  obtain ⟨F13_, hF13_⟩ : ∃ z, z = (upR (upR (upR (upR (upR (upR F12_ [11, 4, 0] (qK 4 [5, 3])) [11, 4, 1] q0) [11, 4, 2] q0) [11, 4, 3] q0) [11, 4, 4] q0) [11, 4, 5] q0) := ⟨_, rfl⟩
  rw [← hI13_, ← hF13_] at hH
  obtain ⟨F14_, hF14_⟩ : ∃ z, z = up F13_ [0] 5 (some [11, 4, 0]) := ⟨_, rfl⟩
  refine x_put (C := RX6) (T := TX6) (N := 6) (ci := 6) hx hb hts iu6 tyX6 tyX6_ok nmX6 hown hK hH hS (id := [0]) (Or.inr (Or.inr (Or.inr (Or.inr (Or.inr (Or.inr (Or.inr (Or.inr (Or.inr (Or.inr (Or.inr (Or.inr (Or.inr (Or.inr (Or.inr (hd)))))))))))))))) rfl rfl (by decide) 5 (by decide) (hts _ tw136) (fun _ h9 => h9) (Or.inr ⟨rfl, hnm, rfl⟩) (ty := (.object "CasebookSteps$Case")) (v := .ref (ga g [11, 4, 0])) (by decide +kernel) rfl rfl (I' := I13_) (F' := F14_) (fun _ _ => rfl) (fun i hi => by rw [hF14_]; exact up_id hi) (fun j9 => by rw [hF14_, up_row]; exact xv_updq (ci := 6) (k := 5) (x := (some [11, 4, 0])) rfl j9) dX6_init_57 (fun H locs hH hS => ?_)
  exact x_vret hx hb hr hlocks hS dX6_init_60 (hH.congr (g' := g) (fun _ hi => hi) (fun i _ => by rw [hI13_, hI12_, hI11_, hI10_, hI8_, hI7_, hI6_, hI4_, hI3_, hI1_]; funext q; by_cases e0 : i = [0]; (rw [e0]; simp [up, upR, r0, q0, q1, q2, rC, rS, rP, rK, h0, hz, qM, qK, qJ]); by_cases e1 : i = [1]; (rw [e1]; simp [up, upR, r0, q0, q1, q2, rC, rS, rP, rK, h0, hz, qM, qK, qJ]); by_cases e2 : i = [2]; (rw [e2]; simp [up, upR, r0, q0, q1, q2, rC, rS, rP, rK, h0, hz, qM, qK, qJ]); by_cases e3 : i = [3]; (rw [e3]; simp [up, upR, r0, q0, q1, q2, rC, rS, rP, rK, h0, hz, qM, qK, qJ]); by_cases e4 : i = [4, 0]; (rw [e4]; simp [up, upR, r0, q0, q1, q2, rC, rS, rP, rK, h0, hz, qM, qK, qJ]); by_cases e5 : i = [4, 1]; (rw [e5]; simp [up, upR, r0, q0, q1, q2, rC, rS, rP, rK, h0, hz, qM, qK, qJ]); by_cases e6 : i = [4, 2]; (rw [e6]; simp [up, upR, r0, q0, q1, q2, rC, rS, rP, rK, h0, hz, qM, qK, qJ]); by_cases e7 : i = [4, 3]; (rw [e7]; simp [up, upR, r0, q0, q1, q2, rC, rS, rP, rK, h0, hz, qM, qK, qJ]); by_cases e8 : i = [11, 4, 0]; (rw [e8]; simp [up, upR, r0, q0, q1, q2, rC, rS, rP, rK, h0, hz, qM, qK, qJ]); by_cases e9 : i = [5, 3]; (rw [e9]; simp [up, upR, r0, q0, q1, q2, rC, rS, rP, rK, h0, hz, qM, qK, qJ]); by_cases e10 : i = [6, 3]; (rw [e10]; simp [up, upR, r0, q0, q1, q2, rC, rS, rP, rK, h0, hz, qM, qK, qJ]); by_cases e11 : i = [11, 4, 1]; (rw [e11]; simp [up, upR, r0, q0, q1, q2, rC, rS, rP, rK, h0, hz, qM, qK, qJ]); by_cases e12 : i = [11, 4, 2]; (rw [e12]; simp [up, upR, r0, q0, q1, q2, rC, rS, rP, rK, h0, hz, qM, qK, qJ]); by_cases e13 : i = [11, 4, 3]; (rw [e13]; simp [up, upR, r0, q0, q1, q2, rC, rS, rP, rK, h0, hz, qM, qK, qJ]); by_cases e14 : i = [11, 4, 4]; (rw [e14]; simp [up, upR, r0, q0, q1, q2, rC, rS, rP, rK, h0, hz, qM, qK, qJ]); by_cases e15 : i = [11, 4, 5]; (rw [e15]; simp [up, upR, r0, q0, q1, q2, rC, rS, rP, rK, h0, hz, qM, qK, qJ]); simp [up, upR, e0, e1, e2, e3, e4, e5, e6, e7, e8, e9, e10, e11, e12, e13, e14, e15]) (fun i _ => by rw [hF14_, hF13_, hF12_, hF11_, hF10_, hF9_, hF8_, hF7_, hF5_, hF4_, hF2_, hF1_]; funext q; by_cases e0 : i = [0]; (rw [e0]; simp [up, upR, r0, q0, q1, q2, rC, rS, rP, rK, h0, hz, qM, qK, qJ]); by_cases e1 : i = [1]; (rw [e1]; simp [up, upR, r0, q0, q1, q2, rC, rS, rP, rK, h0, hz, qM, qK, qJ]); by_cases e2 : i = [2]; (rw [e2]; simp [up, upR, r0, q0, q1, q2, rC, rS, rP, rK, h0, hz, qM, qK, qJ]); by_cases e3 : i = [3]; (rw [e3]; simp [up, upR, r0, q0, q1, q2, rC, rS, rP, rK, h0, hz, qM, qK, qJ]); by_cases e4 : i = [4, 0]; (rw [e4]; simp [up, upR, r0, q0, q1, q2, rC, rS, rP, rK, h0, hz, qM, qK, qJ]); by_cases e5 : i = [4, 1]; (rw [e5]; simp [up, upR, r0, q0, q1, q2, rC, rS, rP, rK, h0, hz, qM, qK, qJ]); by_cases e6 : i = [4, 2]; (rw [e6]; simp [up, upR, r0, q0, q1, q2, rC, rS, rP, rK, h0, hz, qM, qK, qJ]); by_cases e7 : i = [4, 3]; (rw [e7]; simp [up, upR, r0, q0, q1, q2, rC, rS, rP, rK, h0, hz, qM, qK, qJ]); by_cases e8 : i = [11, 4, 0]; (rw [e8]; simp [up, upR, r0, q0, q1, q2, rC, rS, rP, rK, h0, hz, qM, qK, qJ]); by_cases e9 : i = [5, 3]; (rw [e9]; simp [up, upR, r0, q0, q1, q2, rC, rS, rP, rK, h0, hz, qM, qK, qJ]); by_cases e10 : i = [6, 3]; (rw [e10]; simp [up, upR, r0, q0, q1, q2, rC, rS, rP, rK, h0, hz, qM, qK, qJ]); by_cases e11 : i = [11, 4, 1]; (rw [e11]; simp [up, upR, r0, q0, q1, q2, rC, rS, rP, rK, h0, hz, qM, qK, qJ]); by_cases e12 : i = [11, 4, 2]; (rw [e12]; simp [up, upR, r0, q0, q1, q2, rC, rS, rP, rK, h0, hz, qM, qK, qJ]); by_cases e13 : i = [11, 4, 3]; (rw [e13]; simp [up, upR, r0, q0, q1, q2, rC, rS, rP, rK, h0, hz, qM, qK, qJ]); by_cases e14 : i = [11, 4, 4]; (rw [e14]; simp [up, upR, r0, q0, q1, q2, rC, rS, rP, rK, h0, hz, qM, qK, qJ]); by_cases e15 : i = [11, 4, 5]; (rw [e15]; simp [up, upR, r0, q0, q1, q2, rC, rS, rP, rK, h0, hz, qM, qK, qJ]); simp [up, upR, e0, e1, e2, e3, e4, e5, e6, e7, e8, e9, e10, e11, e12, e13, e14, e15]))
