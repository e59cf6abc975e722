/-! CONTRACTS: a case, small ones -/
theorem nI_m1 {q : Nat} (h : q < 2 ^ 31) : ¬ nI q = -1 := fun e => by
  have a := nI_toInt h
  rw [e] at a
  have b : (-1 : Int32).toInt = -1 := by decide
  omega
theorem xCh.up {X : xX} (h : xCh X) (k : Nat) (v : Int32) (hv : narrow .char (.int v) = .int v) : xCh (up2 X 2 k v) := fun q => by
  by_cases e : q = k
  · subst e; rw [up2_at]; exact hv
  · rw [up2_k _ _ _ e]; exact h q
theorem xCh.off {X : xX} (h : xCh X) {f : Nat} (hf : 2 ≠ f) (k : Nat) (v : Int32) : xCh (up2 X f k v) := fun q => by rw [up2_f _ _ _ hf]; exact h q
set_option maxHeartbeats 1000000 in
set_option maxRecDepth 100000 in
theorem c_X0_isParentActive (l : Launch) (g : xG) (h : xS) (I : xI) (n c : Nat) (X : xX) (hc : c < sNc h ∨ c = 4) (p : Nat) (hp : sPl h c = p) (hpp : p < sNp h) (hW : xWp h I p) (j : Nat) (hj : j < sSz h p) (hch : xCh X) : xM l yX0_isParentActive (xws yX0_isParentActive cX0_isParentActive 2 (some FieldType.boolean)) 2 33 g [.ref (ga g [11, c, 0]), .ref (ga g [7, p, j])] (xR g (xD h) (sX I c X) (xFh h) n) (some (.int (b01 (sPar (vP I p) X j)))) (xR g (xD h) (sX I c X) (xFh h) n) 0 0 := by
  refine xM.of (by decide) (Nat.le_of_ble_eq_true rfl) ?_
  intro P_ e_ s m_ bl_ mt_ cd_ ls hx hb hr hown hlocks hml hnm hE hK hts hH hS hl
  have hl : lv_has ls 2 [(0, .ref (ga g [11, c, 0])), (1, .ref (ga g [7, p, j]))] := hl
  have h8 := hW.1
  rcases (hW.2.2.2 j hj).2.1 with h0 | ⟨q, hq, h1, -⟩
  · skip
    refine lv_aload_n hx hb dX0_isParentActive_0 rfl (lv_at hl 1 rfl) ?_
    refine x_get (C := RX5) (T := TX5) (N := 7) (ci := 5) hx hb hts iu5 hown hK hH (id := [7, p, j]) (by first | trivial | (simp only [xD]; omega) | (simp [xD]; done) | (simp [xD]; omega)) rfl rfl (by decide) 1 (by decide) (hts _ tw329) (fun _ h9 => h9) rfl (v := .int (-1)) (congrArg Value.int h0) dX0_isParentActive_1 ?_
    refine lv_iconst (v := (-1)) hx hb dX0_isParentActive_4 (by decide) ?_
    refine lv_icmp_eq (tgt := 21) hx hb dX0_isParentActive_5 (by decide) (fun _ => ?_) (fun q_ => absurd (by decide) q_)
    refine lv_iconst (v := 1) hx hb dX0_isParentActive_21 (by decide) ?_
    refine lv_goto (tgt := 26) hx hb dX0_isParentActive_22 (by decide) ?_
    exact x_zret hx hb hr hlocks hS dX0_isParentActive_26 rfl (b01_t (by first | (simp [sPar, vP, h0]; done) | (unfold sPar; rw [hcl]; simp [vP, h1, *]; done) | (unfold sPar; rw [hcl]; rw [decide_eq_false (show ¬ vP I p j 1 = -1 from by rw [show vP I p j 1 = nI q from h1]; exact nI_m1 (by omega))]; simp [*]))) hH
  · skip
    have hcl : (vP I p j 1).toNatClampNeg = q := by rw [show vP I p j 1 = nI q from h1]; exact nI_clamp (by omega)
    refine lv_aload_n hx hb dX0_isParentActive_0 rfl (lv_at hl 1 rfl) ?_
    refine x_get (C := RX5) (T := TX5) (N := 7) (ci := 5) hx hb hts iu5 hown hK hH (id := [7, p, j]) (by first | trivial | (simp only [xD]; omega) | (simp [xD]; done) | (simp [xD]; omega)) rfl rfl (by decide) 1 (by decide) (hts _ tw329) (fun _ h9 => h9) rfl (v := .int (nI q)) (congrArg Value.int h1) dX0_isParentActive_1 ?_
    refine lv_iconst (v := (-1)) hx hb dX0_isParentActive_4 (by decide) ?_
    refine lv_icmp_eq (tgt := 21) hx hb dX0_isParentActive_5 (by decide) (fun q_ => absurd q_ (nI_m1 (by omega))) (fun _ => ?_)
    refine lv_aload_n hx hb dX0_isParentActive_8 rfl (lv_at hl 0 rfl) ?_
    refine lv_aload_n hx hb dX0_isParentActive_9 rfl (lv_at hl 1 rfl) ?_
    refine x_get (C := RX5) (T := TX5) (N := 7) (ci := 5) hx hb hts iu5 hown hK hH (id := [7, p, j]) (by first | trivial | (simp only [xD]; omega) | (simp [xD]; done) | (simp [xD]; omega)) rfl rfl (by decide) 1 (by decide) (hts _ tw329) (fun _ h9 => h9) rfl (v := .int (nI q)) (congrArg Value.int h1) dX0_isParentActive_10 ?_
    refine x_V1 hx hb hml hown hE hS hl.1 cyX0_stateOf tw518 (c_X0_stateOf l g h I n c X hc q (by omega) hch) ⟨Nat.le_of_ble_eq_true rfl, Nat.le_of_ble_eq_true rfl⟩ ⟨Nat.le_of_ble_eq_true rfl, Nat.le_of_ble_eq_true rfl⟩ (x_recv hK hH (id := [11, c, 0]) (by first | trivial | (simp only [xD]; omega) | (simp [xD]; done) | (simp [xD]; omega)) (ci := 0) rfl (by decide) rfl) hH rfl rfl (Nat.le_of_ble_eq_true rfl) dX0_isParentActive_13 (fun H locs hH hS => ?_)
    refine lv_bipush (v := 97) hx hb dX0_isParentActive_16 (by decide) ?_
    refine lv_icmp_ne (tgt := 25) hx hb dX0_isParentActive_18 (by decide) (fun c_18 => ?_) (fun c_18 => ?_)
    · skip
      refine lv_iconst (v := 0) hx hb dX0_isParentActive_25 (by decide) ?_
      exact x_zret hx hb hr hlocks hS dX0_isParentActive_26 rfl (b01_f (by first | (simp [sPar, vP, h0]; done) | (unfold sPar; rw [hcl]; simp [vP, h1, *]; done) | (unfold sPar; rw [hcl]; rw [decide_eq_false (show ¬ vP I p j 1 = -1 from by rw [show vP I p j 1 = nI q from h1]; exact nI_m1 (by omega))]; simp [*]))) hH
    · skip
      refine lv_iconst (v := 1) hx hb dX0_isParentActive_21 (by decide) ?_
      refine lv_goto (tgt := 26) hx hb dX0_isParentActive_22 (by decide) ?_
      exact x_zret hx hb hr hlocks hS dX0_isParentActive_26 rfl (b01_t (by first | (simp [sPar, vP, h0]; done) | (unfold sPar; rw [hcl]; simp [vP, h1, *]; done) | (unfold sPar; rw [hcl]; rw [decide_eq_false (show ¬ vP I p j 1 = -1 from by rw [show vP I p j 1 = nI q from h1]; exact nI_m1 (by omega))]; simp [*]))) hH

set_option maxHeartbeats 1000000 in
set_option maxRecDepth 100000 in
theorem c_X0_putState (l : Launch) (g : xG) (h : xS) (I : xI) (n c : Nat) (X : xX) (hc : c < sNc h ∨ c = 4) (k : Nat) (v : Int32) (hk : k < 8) (hv : narrow .char (.int v) = .int v) : xM l yX0_putState (xws yX0_putState cX0_putState 3 none) 1 12 g [.ref (ga g [11, c, 0]), .int (nI k), .int v] (xR g (xD h) (sX I c X) (xFh h) n) none (xR g (xD h) (sX I c (up2 X 2 k v)) (xFh h) n) 0 0 := by
  refine xM.of (by decide) (Nat.le_of_ble_eq_true rfl) ?_
  intro P_ e_ s m_ bl_ mt_ cd_ ls hx hb hr hown hlocks hml hnm hE hK hts hH hS hl
  have hl : lv_has ls 3 [(0, .ref (ga g [11, c, 0])), (1, .int (nI k)), (2, .int v)] := hl
  refine lv_iload_n hx hb dX0_putState_0 rfl (lv_at hl 1 rfl) ?_
  refine lv_if_lt (tgt := 17) hx hb dX0_putState_1 (by decide) (fun q_ => absurd q_ (fun z_ => absurd ((nI_ltI (a := k) (b := 0) (by omega) (by omega)).mp z_) (by omega))) (fun _ => ?_)
  refine lv_iload_n hx hb dX0_putState_4 rfl (lv_at hl 1 rfl) ?_
  refine lv_bipush (v := 8) hx hb dX0_putState_5 (by decide) ?_
  refine lv_icmp_ge (tgt := 17) hx hb dX0_putState_7 (by decide) (fun q_ => absurd q_ (fun z_ => absurd ((nI_leI (a := 8) (b := k) (by omega) (by omega)).mp z_) (by omega))) (fun _ => ?_)
  refine lv_aload_n hx hb dX0_putState_10 rfl (lv_at hl 0 rfl) ?_
  refine x_get (C := RX0) (T := TX0) (N := 11) (ci := 0) hx hb hts iu0 hown hK hH (id := [11, c, 0]) (by first | trivial | (simp only [xD]; omega) | (simp [xD]; done) | (simp [xD]; omega)) rfl rfl (by decide) 2 (by decide) (hts _ tw93) (fun _ h9 => h9) (sX_at _ _ _ _) (v := .ref (ga g [11, c, 2])) rfl dX0_putState_11 ?_
  refine lv_iload_n hx hb dX0_putState_14 rfl (lv_at hl 1 rfl) ?_
  refine lv_iload_n hx hb dX0_putState_15 rfl (lv_at hl 2 rfl) ?_
  obtain ⟨X1_, hX1_⟩ : ∃ z, z = up2 X 2 k v := ⟨_, rfl⟩
  refine x_cast hx hb hK hH hS (id := [11, c, 2]) (by first | trivial | (simp only [xD]; omega) | (simp [xD]; done) | (simp [xD]; omega)) (L := 8) rfl k rfl (by omega) (by decide) hv ((sX_up _ _ _ _ _ _).trans (congrArg (sX I c) hX1_.symm)) dX0_putState_16 (fun H locs hH hS => ?_)
  exact x_vret hx hb hr hlocks hS dX0_putState_17 (by rw [hX1_] at hH; exact hH)

set_option maxHeartbeats 1000000 in
set_option maxRecDepth 100000 in
theorem c_X0_enter (l : Launch) (g : xG) (h : xS) (I : xI) (n c : Nat) (X : xX) (hc : c < sNc h ∨ c = 4) (k : Nat) (kd : Int32) (hk : k < 8) : xM l yX0_enter (xws yX0_enter cX0_enter 3 none) 2 34 g [.ref (ga g [11, c, 0]), .int (nI k), .int kd] (xR g (xD h) (sX I c X) (xFh h) n) none (xR g (xD h) (sX I c (up2 (up2 X 2 k (if kd = 109 then 99 else 97)) 5 k (X 5 k + 1))) (xFh h) n) 0 0 := by
  refine xM.of (by decide) (Nat.le_of_ble_eq_true rfl) ?_
  intro P_ e_ s m_ bl_ mt_ cd_ ls hx hb hr hown hlocks hml hnm hE hK hts hH hS hl
  have hl : lv_has ls 3 [(0, .ref (ga g [11, c, 0])), (1, .int (nI k)), (2, .int kd)] := hl
  refine lv_aload_n hx hb dX0_enter_0 rfl (lv_at hl 0 rfl) ?_
  refine lv_iload_n hx hb dX0_enter_1 rfl (lv_at hl 1 rfl) ?_
  refine lv_iload_n hx hb dX0_enter_2 rfl (lv_at hl 2 rfl) ?_
  refine lv_bipush (v := 109) hx hb dX0_enter_3 (by decide) ?_
  refine lv_icmp_ne (tgt := 13) hx hb dX0_enter_5 (by decide) (fun c_5 => ?_) (fun c_5 => ?_)
  · skip
    refine lv_bipush (v := 97) hx hb dX0_enter_13 (by decide) ?_
    refine x_V0 hx hb hml hown hE hS hl.1 cyX0_putState tw513 (c_X0_putState l g h I n c X hc k 97 (by omega) (by rfl)) ⟨Nat.le_of_ble_eq_true rfl, Nat.le_of_ble_eq_true rfl⟩ ⟨Nat.le_of_ble_eq_true rfl, Nat.le_of_ble_eq_true rfl⟩ (x_recv hK hH (id := [11, c, 0]) (by first | trivial | (simp only [xD]; omega) | (simp [xD]; done) | (simp [xD]; omega)) (ci := 0) rfl (by decide) rfl) hH rfl rfl (Nat.le_of_ble_eq_true rfl) dX0_enter_15 (fun H locs hH hS => ?_)
    refine lv_iload_n hx hb dX0_enter_18 rfl (lv_at hl 1 rfl) ?_
    refine lv_if_lt (tgt := 38) hx hb dX0_enter_19 (by decide) (fun q_ => absurd q_ (fun z_ => absurd ((nI_ltI (a := k) (b := 0) (by omega) (by omega)).mp z_) (by omega))) (fun _ => ?_)
    refine lv_iload_n hx hb dX0_enter_22 rfl (lv_at hl 1 rfl) ?_
    refine lv_bipush (v := 8) hx hb dX0_enter_23 (by decide) ?_
    refine lv_icmp_ge (tgt := 38) hx hb dX0_enter_25 (by decide) (fun q_ => absurd q_ (fun z_ => absurd ((nI_leI (a := 8) (b := k) (by omega) (by omega)).mp z_) (by omega))) (fun _ => ?_)
    refine lv_aload_n hx hb dX0_enter_28 rfl (lv_at hl 0 rfl) ?_
    refine x_get (C := RX0) (T := TX0) (N := 11) (ci := 0) hx hb hts iu0 hown hK hH (id := [11, c, 0]) (by first | trivial | (simp only [xD]; omega) | (simp [xD]; done) | (simp [xD]; omega)) rfl rfl (by decide) 5 (by decide) (hts _ tw96) (fun _ h9 => h9) (sX_at _ _ _ _) (v := .ref (ga g [11, c, 5])) rfl dX0_enter_29 ?_
    refine lv_iload_n hx hb dX0_enter_32 rfl (lv_at hl 1 rfl) ?_
    refine lv_dup2_11 hx hb dX0_enter_33 rfl rfl ?_
    refine x_iald hx hb hK hH (id := [11, c, 5]) (by first | trivial | (simp only [xD]; omega) | (simp [xD]; done) | (simp [xD]; omega)) (L := 8) rfl (sX_at _ _ _ _) k rfl (by omega) (by decide) dX0_enter_34 ?_
    refine lv_iconst (v := 1) hx hb dX0_enter_35 (by decide) ?_
    refine lv_iadd hx hb dX0_enter_36 ?_
    obtain ⟨X1_, hX1_⟩ : ∃ z, z = up2 (up2 X 2 k 97) 5 k (((up2 X 2 k 97) 5 k) + 1) := ⟨_, rfl⟩
    refine x_iast hx hb hK hH hS (id := [11, c, 5]) (by first | trivial | (simp only [xD]; omega) | (simp [xD]; done) | (simp [xD]; omega)) (L := 8) rfl k rfl (by omega) (by decide) ((sX_up _ _ _ _ _ _).trans (congrArg (sX I c) hX1_.symm)) dX0_enter_37 (fun H locs hH hS => ?_)
    exact x_vret hx hb hr hlocks hS dX0_enter_38 (by rw [hX1_, up2_f _ _ _ (by decide)] at hH; rw [if_neg c_5]; exact hH)
  · skip
    refine lv_bipush (v := 99) hx hb dX0_enter_8 (by decide) ?_
    refine lv_goto (tgt := 15) hx hb dX0_enter_10 (by decide) ?_
    refine x_V0 hx hb hml hown hE hS hl.1 cyX0_putState tw513 (c_X0_putState l g h I n c X hc k 99 (by omega) (by rfl)) ⟨Nat.le_of_ble_eq_true rfl, Nat.le_of_ble_eq_true rfl⟩ ⟨Nat.le_of_ble_eq_true rfl, Nat.le_of_ble_eq_true rfl⟩ (x_recv hK hH (id := [11, c, 0]) (by first | trivial | (simp only [xD]; omega) | (simp [xD]; done) | (simp [xD]; omega)) (ci := 0) rfl (by decide) rfl) hH rfl rfl (Nat.le_of_ble_eq_true rfl) dX0_enter_15 (fun H locs hH hS => ?_)
    refine lv_iload_n hx hb dX0_enter_18 rfl (lv_at hl 1 rfl) ?_
    refine lv_if_lt (tgt := 38) hx hb dX0_enter_19 (by decide) (fun q_ => absurd q_ (fun z_ => absurd ((nI_ltI (a := k) (b := 0) (by omega) (by omega)).mp z_) (by omega))) (fun _ => ?_)
    refine lv_iload_n hx hb dX0_enter_22 rfl (lv_at hl 1 rfl) ?_
    refine lv_bipush (v := 8) hx hb dX0_enter_23 (by decide) ?_
    refine lv_icmp_ge (tgt := 38) hx hb dX0_enter_25 (by decide) (fun q_ => absurd q_ (fun z_ => absurd ((nI_leI (a := 8) (b := k) (by omega) (by omega)).mp z_) (by omega))) (fun _ => ?_)
    refine lv_aload_n hx hb dX0_enter_28 rfl (lv_at hl 0 rfl) ?_
    refine x_get (C := RX0) (T := TX0) (N := 11) (ci := 0) hx hb hts iu0 hown hK hH (id := [11, c, 0]) (by first | trivial | (simp only [xD]; omega) | (simp [xD]; done) | (simp [xD]; omega)) rfl rfl (by decide) 5 (by decide) (hts _ tw96) (fun _ h9 => h9) (sX_at _ _ _ _) (v := .ref (ga g [11, c, 5])) rfl dX0_enter_29 ?_
    refine lv_iload_n hx hb dX0_enter_32 rfl (lv_at hl 1 rfl) ?_
    refine lv_dup2_11 hx hb dX0_enter_33 rfl rfl ?_
    refine x_iald hx hb hK hH (id := [11, c, 5]) (by first | trivial | (simp only [xD]; omega) | (simp [xD]; done) | (simp [xD]; omega)) (L := 8) rfl (sX_at _ _ _ _) k rfl (by omega) (by decide) dX0_enter_34 ?_
    refine lv_iconst (v := 1) hx hb dX0_enter_35 (by decide) ?_
    refine lv_iadd hx hb dX0_enter_36 ?_
    obtain ⟨X2_, hX2_⟩ : ∃ z, z = up2 (up2 X 2 k 99) 5 k (((up2 X 2 k 99) 5 k) + 1) := ⟨_, rfl⟩
    refine x_iast hx hb hK hH hS (id := [11, c, 5]) (by first | trivial | (simp only [xD]; omega) | (simp [xD]; done) | (simp [xD]; omega)) (L := 8) rfl k rfl (by omega) (by decide) ((sX_up _ _ _ _ _ _).trans (congrArg (sX I c) hX2_.symm)) dX0_enter_37 (fun H locs hH hS => ?_)
    exact x_vret hx hb hr hlocks hS dX0_enter_38 (by rw [hX2_, up2_f _ _ _ (by decide)] at hH; rw [if_pos c_5]; exact hH)

def sAct (P : Nat → Nat → Int32) (X : xX) (j : Nat) : Bool := decide (P j 0 = 116) && decide (X 2 j = 97)
def sUnt (P : Nat → Nat → Int32) (X : xX) (j : Nat) : Int32 := P j 5 - X 4 j + 1
set_option maxHeartbeats 1000000 in
set_option maxRecDepth 100000 in
theorem c_X0_isActiveTask (l : Launch) (g : xG) (h : xS) (I : xI) (n c : Nat) (X : xX) (hc : c < sNc h ∨ c = 4) (p : Nat) (hp : sPl h c = p) (hpp : p < sNp h) (hW : xWp h I p) (j : Nat) (hj : j < sSz h p) (hch : xCh X) : xM l yX0_isActiveTask (xws yX0_isActiveTask cX0_isActiveTask 3 (some FieldType.boolean)) 2 33 g [.ref (ga g [11, c, 0]), .int (nI j)] (xR g (xD h) (sX I c X) (xFh h) n) (some (.int (b01 (sAct (vP I p) X j)))) (xR g (xD h) (sX I c X) (xFh h) n) 0 0 := by
  refine xM.of (by decide) (Nat.le_of_ble_eq_true rfl) ?_
  intro P_ e_ s m_ bl_ mt_ cd_ ls hx hb hr hown hlocks hml hnm hE hK hts hH hS hl
  have hl : lv_has ls 3 [(0, .ref (ga g [11, c, 0])), (1, .int (nI j))] := hl
  have h8 := hW.1
  refine lv_aload_n hx hb dX0_isActiveTask_0 rfl (lv_at hl 0 rfl) ?_
  refine x_get (C := RX0) (T := TX0) (N := 11) (ci := 0) hx hb hts iu0 hown hK hH (id := [11, c, 0]) (by first | trivial | (simp only [xD]; omega) | (simp [xD]; done) | (simp [xD]; omega)) rfl rfl (by decide) 0 (by decide) (hts _ tw90) (fun _ h9 => h9) (sX_at _ _ _ _) (v := .ref (ga g [5, p])) (by rw [← hp]; rfl) dX0_isActiveTask_1 ?_
  refine lv_iload_n hx hb dX0_isActiveTask_4 rfl (lv_at hl 1 rfl) ?_
  refine x_V1 hx hb hml hown hE hS hl.1 cyX4_stepAt tw517 (c_X4_stepAt l g h (sX I c X) n p j hpp (by omega) hW.1 hW.2.2.1) ⟨Nat.le_of_ble_eq_true rfl, Nat.le_of_ble_eq_true rfl⟩ ⟨Nat.le_of_ble_eq_true rfl, Nat.le_of_ble_eq_true rfl⟩ (x_recv hK hH (id := [5, p]) (by first | trivial | (simp only [xD]; omega) | (simp [xD]; done) | (simp [xD]; omega)) (ci := 4) rfl (by decide) rfl) hH rfl rfl (Nat.le_of_ble_eq_true rfl) dX0_isActiveTask_5 (fun H locs hH hS => ?_)
  refine lv_astore_n (lv' := [(2, .ref (ga g [7, p, j])), (0, .ref (ga g [11, c, 0])), (1, .int (nI j))]) hx hb dX0_isActiveTask_8 rfl hl (by decide) rfl (fun ls hl => ?_)
  refine lv_aload_n hx hb dX0_isActiveTask_9 rfl (lv_at hl 0 rfl) ?_
  refine lv_ifnull hx hb dX0_isActiveTask_10 ?_
  refine lv_aload_n hx hb dX0_isActiveTask_13 rfl (lv_at hl 0 rfl) ?_
  refine x_get (C := RX5) (T := TX5) (N := 7) (ci := 5) hx hb hts iu5 hown hK hH (id := [7, p, j]) (by first | trivial | (simp only [xD]; omega) | (simp [xD]; done) | (simp [xD]; omega)) rfl rfl (by decide) 0 (by decide) (hts _ tw327) (fun _ h9 => h9) rfl (v := .int (I [7, p, j] 0)) rfl dX0_isActiveTask_14 ?_
  refine lv_bipush (v := 116) hx hb dX0_isActiveTask_17 (by decide) ?_
  refine lv_icmp_ne (tgt := 36) hx hb dX0_isActiveTask_19 (by decide) (fun c_19 => ?_) (fun c_19 => ?_)
  · skip
    refine lv_iconst (v := 0) hx hb dX0_isActiveTask_36 (by decide) ?_
    exact x_zret hx hb hr hlocks hS dX0_isActiveTask_37 rfl (b01_f (by simp [sAct, vP, *])) hH
  · skip
    refine lv_aload_n hx hb dX0_isActiveTask_22 rfl (lv_at hl 1 rfl) ?_
    refine lv_iload_n hx hb dX0_isActiveTask_23 rfl (lv_at hl 2 rfl) ?_
    refine x_V1 hx hb hml hown hE hS hl.1 cyX0_stateOf tw518 (c_X0_stateOf l g h I n c X hc j (by omega) hch) ⟨Nat.le_of_ble_eq_true rfl, Nat.le_of_ble_eq_true rfl⟩ ⟨Nat.le_of_ble_eq_true rfl, Nat.le_of_ble_eq_true rfl⟩ (x_recv hK hH (id := [11, c, 0]) (by first | trivial | (simp only [xD]; omega) | (simp [xD]; done) | (simp [xD]; omega)) (ci := 0) rfl (by decide) rfl) hH rfl rfl (Nat.le_of_ble_eq_true rfl) dX0_isActiveTask_24 (fun H locs hH hS => ?_)
    refine lv_bipush (v := 97) hx hb dX0_isActiveTask_27 (by decide) ?_
    refine lv_icmp_ne (tgt := 36) hx hb dX0_isActiveTask_29 (by decide) (fun c_29 => ?_) (fun c_29 => ?_)
    · skip
      refine lv_iconst (v := 0) hx hb dX0_isActiveTask_36 (by decide) ?_
      exact x_zret hx hb hr hlocks hS dX0_isActiveTask_37 rfl (b01_f (by simp [sAct, vP, *])) hH
    · skip
      refine lv_iconst (v := 1) hx hb dX0_isActiveTask_32 (by decide) ?_
      refine lv_goto (tgt := 37) hx hb dX0_isActiveTask_33 (by decide) ?_
      exact x_zret hx hb hr hlocks hS dX0_isActiveTask_37 rfl (b01_t (by simp [sAct, vP, *])) hH

set_option maxHeartbeats 1000000 in
set_option maxRecDepth 100000 in
theorem c_X0_isActiveTask_no (l : Launch) (g : xG) (h : xS) (I : xI) (n c : Nat) (X : xX) (hc : c < sNc h ∨ c = 4) (p : Nat) (hp : sPl h c = p) (hpp : p < sNp h) (hW : xWp h I p) (j : Nat) (hj : sSz h p ≤ j) (hj8 : j < 8) : xM l yX0_isActiveTask (xws yX0_isActiveTask cX0_isActiveTask 3 (some FieldType.boolean)) 2 33 g [.ref (ga g [11, c, 0]), .int (nI j)] (xR g (xD h) (sX I c X) (xFh h) n) (some (.int 0)) (xR g (xD h) (sX I c X) (xFh h) n) 0 0 := by
  refine xM.of (by decide) (Nat.le_of_ble_eq_true rfl) ?_
  intro P_ e_ s m_ bl_ mt_ cd_ ls hx hb hr hown hlocks hml hnm hE hK hts hH hS hl
  have hl : lv_has ls 3 [(0, .ref (ga g [11, c, 0])), (1, .int (nI j))] := hl
  refine lv_aload_n hx hb dX0_isActiveTask_0 rfl (lv_at hl 0 rfl) ?_
  refine x_get (C := RX0) (T := TX0) (N := 11) (ci := 0) hx hb hts iu0 hown hK hH (id := [11, c, 0]) (by first | trivial | (simp only [xD]; omega) | (simp [xD]; done) | (simp [xD]; omega)) rfl rfl (by decide) 0 (by decide) (hts _ tw90) (fun _ h9 => h9) (sX_at _ _ _ _) (v := .ref (ga g [5, p])) (by rw [← hp]; rfl) dX0_isActiveTask_1 ?_
  refine lv_iload_n hx hb dX0_isActiveTask_4 rfl (lv_at hl 1 rfl) ?_
  refine x_V1 hx hb hml hown hE hS hl.1 cyX4_stepAt tw517 (c_X4_stepAt_no l g h (sX I c X) n p (nI j) (Or.inl hpp) hW.2.2.1 (Or.inr (nI_le hj (by omega)))) ⟨Nat.le_of_ble_eq_true rfl, Nat.le_of_ble_eq_true rfl⟩ ⟨Nat.le_of_ble_eq_true rfl, Nat.le_of_ble_eq_true rfl⟩ (x_recv hK hH (id := [5, p]) (by first | trivial | (simp only [xD]; omega) | (simp [xD]; done) | (simp [xD]; omega)) (ci := 4) rfl (by decide) rfl) hH rfl rfl (Nat.le_of_ble_eq_true rfl) dX0_isActiveTask_5 (fun H locs hH hS => ?_)
  refine lv_astore_nN (lv' := [(2, .null), (0, .ref (ga g [11, c, 0])), (1, .int (nI j))]) hx hb dX0_isActiveTask_8 rfl hl (by decide) rfl (fun ls hl => ?_)
  refine lv_aload_nN hx hb dX0_isActiveTask_9 rfl (lv_at hl 0 rfl) ?_
  refine lv_ifnullN (tgt := 36) hx hb dX0_isActiveTask_10 (by decide) ?_
  refine lv_iconst (v := 0) hx hb dX0_isActiveTask_36 (by decide) ?_
  exact x_zret hx hb hr hlocks hS dX0_isActiveTask_37 rfl rfl hH

set_option maxHeartbeats 1000000 in
set_option maxRecDepth 100000 in
theorem c_X0_daysUntilLate (l : Launch) (g : xG) (h : xS) (I : xI) (n c : Nat) (X : xX) (hc : c < sNc h ∨ c = 4) (p : Nat) (hp : sPl h c = p) (hpp : p < sNp h) (hW : xWp h I p) (j : Nat) (hj : j < sSz h p)  : xM l yX0_daysUntilLate (xws yX0_daysUntilLate cX0_daysUntilLate 3 (some FieldType.int)) 2 33 g [.ref (ga g [11, c, 0]), .int (nI j)] (xR g (xD h) (sX I c X) (xFh h) n) (some (.int (sUnt (vP I p) X j))) (xR g (xD h) (sX I c X) (xFh h) n) 0 0 := by
  refine xM.of (by decide) (Nat.le_of_ble_eq_true rfl) ?_
  intro P_ e_ s m_ bl_ mt_ cd_ ls hx hb hr hown hlocks hml hnm hE hK hts hH hS hl
  have hl : lv_has ls 3 [(0, .ref (ga g [11, c, 0])), (1, .int (nI j))] := hl
  have h8 := hW.1
  refine lv_aload_n hx hb dX0_daysUntilLate_0 rfl (lv_at hl 0 rfl) ?_
  refine x_get (C := RX0) (T := TX0) (N := 11) (ci := 0) hx hb hts iu0 hown hK hH (id := [11, c, 0]) (by first | trivial | (simp only [xD]; omega) | (simp [xD]; done) | (simp [xD]; omega)) rfl rfl (by decide) 0 (by decide) (hts _ tw90) (fun _ h9 => h9) (sX_at _ _ _ _) (v := .ref (ga g [5, p])) (by rw [← hp]; rfl) dX0_daysUntilLate_1 ?_
  refine lv_iload_n hx hb dX0_daysUntilLate_4 rfl (lv_at hl 1 rfl) ?_
  refine x_V1 hx hb hml hown hE hS hl.1 cyX4_stepAt tw517 (c_X4_stepAt l g h (sX I c X) n p j hpp (by omega) hW.1 hW.2.2.1) ⟨Nat.le_of_ble_eq_true rfl, Nat.le_of_ble_eq_true rfl⟩ ⟨Nat.le_of_ble_eq_true rfl, Nat.le_of_ble_eq_true rfl⟩ (x_recv hK hH (id := [5, p]) (by first | trivial | (simp only [xD]; omega) | (simp [xD]; done) | (simp [xD]; omega)) (ci := 4) rfl (by decide) rfl) hH rfl rfl (Nat.le_of_ble_eq_true rfl) dX0_daysUntilLate_5 (fun H locs hH hS => ?_)
  refine lv_astore_n (lv' := [(2, .ref (ga g [7, p, j])), (0, .ref (ga g [11, c, 0])), (1, .int (nI j))]) hx hb dX0_daysUntilLate_8 rfl hl (by decide) rfl (fun ls hl => ?_)
  refine lv_aload_n hx hb dX0_daysUntilLate_9 rfl (lv_at hl 0 rfl) ?_
  refine lv_ifnonnull (tgt := 17) hx hb dX0_daysUntilLate_10 (by decide) ?_
  refine lv_aload_n hx hb dX0_daysUntilLate_17 rfl (lv_at hl 0 rfl) ?_
  refine x_get (C := RX5) (T := TX5) (N := 7) (ci := 5) hx hb hts iu5 hown hK hH (id := [7, p, j]) (by first | trivial | (simp only [xD]; omega) | (simp [xD]; done) | (simp [xD]; omega)) rfl rfl (by decide) 5 (by decide) (hts _ tw341) (fun _ h9 => h9) rfl (v := .int (I [7, p, j] 5)) rfl dX0_daysUntilLate_18 ?_
  refine lv_aload_n hx hb dX0_daysUntilLate_21 rfl (lv_at hl 1 rfl) ?_
  refine lv_iload_n hx hb dX0_daysUntilLate_22 rfl (lv_at hl 2 rfl) ?_
  refine x_V1 hx hb hml hown hE hS hl.1 cyX0_clockOf tw640 (c_X0_clockOf l g h I n c X hc j (by omega)) ⟨Nat.le_of_ble_eq_true rfl, Nat.le_of_ble_eq_true rfl⟩ ⟨Nat.le_of_ble_eq_true rfl, Nat.le_of_ble_eq_true rfl⟩ (x_recv hK hH (id := [11, c, 0]) (by first | trivial | (simp only [xD]; omega) | (simp [xD]; done) | (simp [xD]; omega)) (ci := 0) rfl (by decide) rfl) hH rfl rfl (Nat.le_of_ble_eq_true rfl) dX0_daysUntilLate_23 (fun H locs hH hS => ?_)
  refine lv_isub hx hb dX0_daysUntilLate_26 ?_
  refine lv_iconst (v := 1) hx hb dX0_daysUntilLate_27 (by decide) ?_
  refine lv_iadd hx hb dX0_daysUntilLate_28 ?_
  exact x_iret hx hb hr hlocks hS dX0_daysUntilLate_29 rfl hH

theorem sIn_nI {k N : Nat} (h : k < N) (hN : N < 2 ^ 31) : sIn (nI k) 0 (nI N) = true := by
  unfold sIn
  rw [decide_eq_false (nI_pos (by omega)), decide_eq_false (nI_ge h hN)]; rfl
set_option maxHeartbeats 1000000 in
set_option maxRecDepth 100000 in
theorem c_X0_valueOf (l : Launch) (g : xG) (h : xS) (I : xI) (n c : Nat) (X : xX) (hc : c < sNc h ∨ c = 4) (k : Nat) (hk : k < 4) : xM l yX0_valueOf (xws yX0_valueOf cX0_valueOf 2 (some FieldType.int)) 2 32 g [.ref (ga g [11, c, 0]), .int (nI k)] (xR g (xD h) (sX I c X) (xFh h) n) (some (.int (X 1 k))) (xR g (xD h) (sX I c X) (xFh h) n) 0 0 := by
  refine xM.of (by decide) (Nat.le_of_ble_eq_true rfl) ?_
  intro P_ e_ s m_ bl_ mt_ cd_ ls hx hb hr hown hlocks hml hnm hE hK hts hH hS hl
  have hl : lv_has ls 2 [(0, .ref (ga g [11, c, 0])), (1, .int (nI k))] := hl
  refine lv_iload_n hx hb dX0_valueOf_0 rfl (lv_at hl 1 rfl) ?_
  refine x_S1N hx hb hml hown hE hS hl.1 cyX6_isDatum (host := "CasebookSteps") (by first | exact List.mem_cons_self | exact List.mem_cons_of_mem _ List.mem_cons_self | exact List.mem_cons_of_mem _ (List.mem_cons_of_mem _ List.mem_cons_self)) (c_X6_isDatum l g h (sX I c X) n (nI k)) ⟨Nat.le_of_ble_eq_true rfl, Nat.le_of_ble_eq_true rfl⟩ ⟨Nat.le_of_ble_eq_true rfl, Nat.le_of_ble_eq_true rfl⟩ hH rfl rfl (Nat.le_of_ble_eq_true rfl) dX0_valueOf_1 (fun H locs hH hS => ?_)
  refine lv_if_eq (tgt := 16) hx hb dX0_valueOf_4 (by decide) (fun q_ => absurd q_ (by rw [show sIn (nI k) 0 4 = true from sIn_nI (N := 4) hk (by omega)]; decide)) (fun _ => ?_)
  refine lv_aload_n hx hb dX0_valueOf_7 rfl (lv_at hl 0 rfl) ?_
  refine x_get (C := RX0) (T := TX0) (N := 11) (ci := 0) hx hb hts iu0 hown hK hH (id := [11, c, 0]) (by first | trivial | (simp only [xD]; omega) | (simp [xD]; done) | (simp [xD]; omega)) rfl rfl (by decide) 1 (by decide) (hts _ tw92) (fun _ h9 => h9) (sX_at _ _ _ _) (v := .ref (ga g [11, c, 1])) rfl dX0_valueOf_8 ?_
  refine lv_iload_n hx hb dX0_valueOf_11 rfl (lv_at hl 1 rfl) ?_
  refine x_iald hx hb hK hH (id := [11, c, 1]) (by first | trivial | (simp only [xD]; omega) | (simp [xD]; done) | (simp [xD]; omega)) (L := 4) rfl (sX_at _ _ _ _) k rfl (by omega) (by decide) dX0_valueOf_12 ?_
  refine lv_goto (tgt := 17) hx hb dX0_valueOf_13 (by decide) ?_
  exact x_iret hx hb hr hlocks hS dX0_valueOf_17 rfl hH

set_option maxHeartbeats 1000000 in
set_option maxRecDepth 100000 in
theorem c_X0_putValue (l : Launch) (g : xG) (h : xS) (I : xI) (n c : Nat) (X : xX) (hc : c < sNc h ∨ c = 4) (k : Nat) (v : Int32) (hk : k < 4) : xM l yX0_putValue (xws yX0_putValue cX0_putValue 3 none) 2 32 g [.ref (ga g [11, c, 0]), .int (nI k), .int v] (xR g (xD h) (sX I c X) (xFh h) n) none (xR g (xD h) (sX I c (up2 X 1 k v)) (xFh h) n) 0 0 := by
  refine xM.of (by decide) (Nat.le_of_ble_eq_true rfl) ?_
  intro P_ e_ s m_ bl_ mt_ cd_ ls hx hb hr hown hlocks hml hnm hE hK hts hH hS hl
  have hl : lv_has ls 3 [(0, .ref (ga g [11, c, 0])), (1, .int (nI k)), (2, .int v)] := hl
  refine lv_iload_n hx hb dX0_putValue_0 rfl (lv_at hl 1 rfl) ?_
  refine x_S1N hx hb hml hown hE hS hl.1 cyX6_isDatum (host := "CasebookSteps") (by first | exact List.mem_cons_self | exact List.mem_cons_of_mem _ List.mem_cons_self | exact List.mem_cons_of_mem _ (List.mem_cons_of_mem _ List.mem_cons_self)) (c_X6_isDatum l g h (sX I c X) n (nI k)) ⟨Nat.le_of_ble_eq_true rfl, Nat.le_of_ble_eq_true rfl⟩ ⟨Nat.le_of_ble_eq_true rfl, Nat.le_of_ble_eq_true rfl⟩ hH rfl rfl (Nat.le_of_ble_eq_true rfl) dX0_putValue_1 (fun H locs hH hS => ?_)
  refine lv_if_eq (tgt := 14) hx hb dX0_putValue_4 (by decide) (fun q_ => absurd q_ (by rw [show sIn (nI k) 0 4 = true from sIn_nI (N := 4) hk (by omega)]; decide)) (fun _ => ?_)
  refine lv_aload_n hx hb dX0_putValue_7 rfl (lv_at hl 0 rfl) ?_
  refine x_get (C := RX0) (T := TX0) (N := 11) (ci := 0) hx hb hts iu0 hown hK hH (id := [11, c, 0]) (by first | trivial | (simp only [xD]; omega) | (simp [xD]; done) | (simp [xD]; omega)) rfl rfl (by decide) 1 (by decide) (hts _ tw92) (fun _ h9 => h9) (sX_at _ _ _ _) (v := .ref (ga g [11, c, 1])) rfl dX0_putValue_8 ?_
  refine lv_iload_n hx hb dX0_putValue_11 rfl (lv_at hl 1 rfl) ?_
  refine lv_iload_n hx hb dX0_putValue_12 rfl (lv_at hl 2 rfl) ?_
  obtain ⟨X1_, hX1_⟩ : ∃ z, z = up2 X 1 k v := ⟨_, rfl⟩
  refine x_iast hx hb hK hH hS (id := [11, c, 1]) (by first | trivial | (simp only [xD]; omega) | (simp [xD]; done) | (simp [xD]; omega)) (L := 4) rfl k rfl (by omega) (by decide) ((sX_up _ _ _ _ _ _).trans (congrArg (sX I c) hX1_.symm)) dX0_putValue_13 (fun H locs hH hS => ?_)
  exact x_vret hx hb hr hlocks hS dX0_putValue_14 (by rw [hX1_] at hH; exact hH)

theorem sDon_mono {P : Nat → Nat → Int32} {X : xX} {j : Nat} (a : Nat) : ∀ b, a ≤ b → sDon P X j a = false → sDon P X j b = false
  | 0, h, q => by rw [show a = 0 by omega] at q; exact q
  | b + 1, h, q => by
    by_cases e : a = b + 1
    · rw [← e]; exact q
    · show (_ && _) = false
      rw [sDon_mono a b (by omega) q]; rfl
set_option maxHeartbeats 1000000 in
set_option maxRecDepth 100000 in
theorem c_X0_areChildrenDone (l : Launch) (g : xG) (h : xS) (I : xI) (n c : Nat) (X : xX) (hc : c < sNc h ∨ c = 4) (p : Nat) (hp : sPl h c = p) (hpp : p < sNp h) (hW : xWp h I p) (j : Nat) (hj : j < sSz h p) (hch : xCh X) : xM l yX0_areChildrenDone (xws yX0_areChildrenDone cX0_areChildrenDone 7 (some FieldType.boolean)) 2 33 g [.ref (ga g [11, c, 0]), .int (nI j)] (xR g (xD h) (sX I c X) (xFh h) n) (some (.int (b01 (sHas (vP I p) j (sSz h p) && sDon (vP I p) X j (sSz h p))))) (xR g (xD h) (sX I c X) (xFh h) n) 0 0 := by
  refine xM.of (by decide) (Nat.le_of_ble_eq_true rfl) ?_
  intro P_ e_ s m_ bl_ mt_ cd_ ls hx hb hr hown hlocks hml hnm hE hK hts hH hS hl
  have hl : lv_has ls 7 [(0, .ref (ga g [11, c, 0])), (1, .int (nI j))] := hl
  have h8 := hW.1
  refine lv_iconst (v := 0) hx hb dX0_areChildrenDone_0 (by decide) ?_
  refine lv_istore_n (lv' := [(2, .int 0), (0, .ref (ga g [11, c, 0])), (1, .int (nI j))]) hx hb dX0_areChildrenDone_1 rfl hl (by decide) rfl (fun ls hl => ?_)
  refine lv_iconst (v := 0) hx hb dX0_areChildrenDone_2 (by decide) ?_
  refine lv_istore_n (lv' := [(3, .int 0), (2, .int 0), (0, .ref (ga g [11, c, 0])), (1, .int (nI j))]) hx hb dX0_areChildrenDone_3 rfl hl (by decide) rfl (fun ls hl => ?_)
  have L4 : ∀ (fu : Nat) (i : Nat) (H : Heap) (locs : List Loc) (ls : Array Slot), (i ≤ sSz h p) → (sDon (vP I p) X j i = true) → sSz h p - i < fu → xR g (xD h) (sX I c X) (xFh h) n H → va_S (gA g) s.heap H locs → lv_has ls 7 [(0, .ref (ga g [11, c, 0])), (1, .int (nI j)), (2, .int (b01 (sHas (vP I p) j i))), (3, .int (nI i))] → W P_ l e_ { frames := 2, cells := 0, slots := 0, locals := 33 } s m_ ([.ref (ga g [11, c, 0]), .int (nI j)] : List Value).toArray bl_ mt_ cd_ H locs 0 0 (MQ bl_ (xQc g (some (.int (b01 (sHas (vP I p) j (sSz h p) && sDon (vP I p) X j (sSz h p))))) (xR g (xD h) (sX I c X) (xFh h) n)) ([.ref (ga g [11, c, 0]), .int (nI j)] : List Value).toArray s 0 0 (gA g)) (F0 m_ 4 ls []) := by
    intro fu
    induction fu with
    | zero => intro i H locs ls hi hd hfu; exact absurd hfu (Nat.not_lt_zero _)
    | succ fu ih4 =>
      intro i H locs ls hi hd hfu hH hS hl
      refine lv_iload_n hx hb dX0_areChildrenDone_4 rfl (lv_at hl 3 rfl) ?_
      refine lv_aload_n hx hb dX0_areChildrenDone_5 rfl (lv_at hl 0 rfl) ?_
      refine x_get (C := RX0) (T := TX0) (N := 11) (ci := 0) hx hb hts iu0 hown hK hH (id := [11, c, 0]) (by first | trivial | (simp only [xD]; omega) | (simp [xD]; done) | (simp [xD]; omega)) rfl rfl (by decide) 0 (by decide) (hts _ tw90) (fun _ h9 => h9) (sX_at _ _ _ _) (v := .ref (ga g [5, p])) (by rw [← hp]; rfl) dX0_areChildrenDone_6 ?_
      refine x_get (C := RX4) (T := TX4) (N := 4) (ci := 4) hx hb hts iu4 hown hK hH (id := [5, p]) (by first | trivial | (simp only [xD]; omega) | (simp [xD]; done) | (simp [xD]; omega)) rfl rfl (by decide) 2 (by decide) (hts _ tw74) (fun _ h9 => h9) rfl (v := .int (nI (sSz h p))) (congrArg Value.int hW.2.2.1) dX0_areChildrenDone_9 ?_
      refine lv_icmp_ge (tgt := 110) hx hb dX0_areChildrenDone_12 (by decide) (fun c_12 => ?_) (fun c_12 => ?_)
      · skip
        have c_12 := (nI_leI (a := (sSz h p)) (b := i) (by omega) (by omega)).mp c_12
        refine lv_iload_n hx hb dX0_areChildrenDone_110 rfl (lv_at hl 2 rfl) ?_
        exact x_zret hx hb hr hlocks hS dX0_areChildrenDone_111 (b01_nar _) (by have e : sSz h p = i := (by omega); rw [e, hd, Bool.and_true]) hH
      · skip
        have c_12 : ¬ _ := fun z_ => c_12 ((nI_leI (a := (sSz h p)) (b := i) (by omega) (by omega)).mpr z_)
        refine lv_aload_n hx hb dX0_areChildrenDone_15 rfl (lv_at hl 0 rfl) ?_
        refine x_get (C := RX0) (T := TX0) (N := 11) (ci := 0) hx hb hts iu0 hown hK hH (id := [11, c, 0]) (by first | trivial | (simp only [xD]; omega) | (simp [xD]; done) | (simp [xD]; omega)) rfl rfl (by decide) 0 (by decide) (hts _ tw90) (fun _ h9 => h9) (sX_at _ _ _ _) (v := .ref (ga g [5, p])) (by rw [← hp]; rfl) dX0_areChildrenDone_16 ?_
        refine lv_iload_n hx hb dX0_areChildrenDone_19 rfl (lv_at hl 3 rfl) ?_
        refine x_V1 hx hb hml hown hE hS hl.1 cyX4_stepAt tw517 (c_X4_stepAt l g h (sX I c X) n p i hpp (by omega) hW.1 hW.2.2.1) ⟨Nat.le_of_ble_eq_true rfl, Nat.le_of_ble_eq_true rfl⟩ ⟨Nat.le_of_ble_eq_true rfl, Nat.le_of_ble_eq_true rfl⟩ (x_recv hK hH (id := [5, p]) (by first | trivial | (simp only [xD]; omega) | (simp [xD]; done) | (simp [xD]; omega)) (ci := 4) rfl (by decide) rfl) hH rfl rfl (Nat.le_of_ble_eq_true rfl) dX0_areChildrenDone_20 (fun H locs hH hS => ?_)
        refine lv_astore (lv' := [(4, .ref (ga g [7, p, i])), (0, .ref (ga g [11, c, 0])), (1, .int (nI j)), (2, .int (b01 (sHas (vP I p) j i))), (3, .int (nI i))]) hx hb dX0_areChildrenDone_23 hl (by decide) rfl (fun ls hl => ?_)
        refine lv_aload hx hb dX0_areChildrenDone_25 (lv_at hl 0 rfl) ?_
        refine lv_ifnull hx hb dX0_areChildrenDone_27 ?_
        refine lv_aload hx hb dX0_areChildrenDone_30 (lv_at hl 0 rfl) ?_
        refine x_get (C := RX5) (T := TX5) (N := 7) (ci := 5) hx hb hts iu5 hown hK hH (id := [7, p, i]) (by first | trivial | (simp only [xD]; omega) | (simp [xD]; done) | (simp [xD]; omega)) rfl rfl (by decide) 1 (by decide) (hts _ tw329) (fun _ h9 => h9) rfl (v := .int (I [7, p, i] 1)) rfl dX0_areChildrenDone_32 ?_
        refine lv_iload_n hx hb dX0_areChildrenDone_35 rfl (lv_at hl 2 rfl) ?_
        refine lv_icmp_eq (tgt := 42) hx hb dX0_areChildrenDone_36 (by decide) (fun c_36 => ?_) (fun c_36 => ?_)
        · skip
          refine lv_iconst (v := 1) hx hb dX0_areChildrenDone_42 (by decide) ?_
          refine lv_istore_n (lv' := [(2, .int 1), (4, .ref (ga g [7, p, i])), (0, .ref (ga g [11, c, 0])), (1, .int (nI j)), (3, .int (nI i))]) hx hb dX0_areChildrenDone_43 rfl hl (by decide) rfl (fun ls hl => ?_)
          refine lv_aload_n hx hb dX0_areChildrenDone_44 rfl (lv_at hl 2 rfl) ?_
          refine lv_iload_n hx hb dX0_areChildrenDone_45 rfl (lv_at hl 4 rfl) ?_
          refine x_V1 hx hb hml hown hE hS hl.1 cyX0_stateOf tw518 (c_X0_stateOf l g h I n c X hc i (by omega) hch) ⟨Nat.le_of_ble_eq_true rfl, Nat.le_of_ble_eq_true rfl⟩ ⟨Nat.le_of_ble_eq_true rfl, Nat.le_of_ble_eq_true rfl⟩ (x_recv hK hH (id := [11, c, 0]) (by first | trivial | (simp only [xD]; omega) | (simp [xD]; done) | (simp [xD]; omega)) (ci := 0) rfl (by decide) rfl) hH rfl rfl (Nat.le_of_ble_eq_true rfl) dX0_areChildrenDone_46 (fun H locs hH hS => ?_)
          refine lv_istore (lv' := [(5, .int (X 2 i)), (2, .int 1), (4, .ref (ga g [7, p, i])), (0, .ref (ga g [11, c, 0])), (1, .int (nI j)), (3, .int (nI i))]) hx hb dX0_areChildrenDone_49 hl (by decide) rfl (fun ls hl => ?_)
          refine lv_iload hx hb dX0_areChildrenDone_51 (lv_at hl 0 rfl) ?_
          refine lv_bipush (v := 105) hx hb dX0_areChildrenDone_53 (by decide) ?_
          refine lv_icmp_ne (tgt := 80) hx hb dX0_areChildrenDone_55 (by decide) (fun c_55 => ?_) (fun c_55 => ?_)
          · skip
            refine lv_iconst (v := 0) hx hb dX0_areChildrenDone_80 (by decide) ?_
            refine lv_istore (lv' := [(6, .int 0), (5, .int (X 2 i)), (2, .int 1), (4, .ref (ga g [7, p, i])), (0, .ref (ga g [11, c, 0])), (1, .int (nI j)), (3, .int (nI i))]) hx hb dX0_areChildrenDone_81 hl (by decide) rfl (fun ls hl => ?_)
            refine lv_iload hx hb dX0_areChildrenDone_83 (lv_at hl 1 rfl) ?_
            refine lv_bipush (v := 99) hx hb dX0_areChildrenDone_85 (by decide) ?_
            refine lv_icmp_eq (tgt := 104) hx hb dX0_areChildrenDone_87 (by decide) (fun c_87 => ?_) (fun c_87 => ?_)
            · skip
              refine lv_iinc (v := (nI (i + 1))) (lv' := [(3, .int (nI (i + 1))), (6, .int 0), (5, .int (X 2 i)), (2, .int 1), (4, .ref (ga g [7, p, i])), (0, .ref (ga g [11, c, 0])), (1, .int (nI j))]) hx hb dX0_areChildrenDone_104 hl (k := 6) rfl (by first | rfl | exact nI_1 _ | exact nI_add _ _) (by decide) rfl (fun ls hl => ?_)
              refine lv_goto (tgt := 4) hx hb dX0_areChildrenDone_107 (by decide) ?_
              exact ih4 (i + 1) _ _ _ (by omega) (by first | exact absurd (c_55.symm.trans c_87) (by decide) | exact absurd (c_55.symm.trans c_94) (by decide) | (show (_ && (_ || _)) = true; rw [hd]; simp [sOpt, vP, *])) (by omega) hH hS (lv_sub hl [5, 6, 3, 0] (by first | rfl | (show _ = [_, _, _, _]; simp only [lv_pick, List.filterMap_cons, List.filterMap_nil]; simp [sHas, b01, vP, *])))
            · skip
              refine lv_iload hx hb dX0_areChildrenDone_90 (lv_at hl 1 rfl) ?_
              refine lv_bipush (v := 120) hx hb dX0_areChildrenDone_92 (by decide) ?_
              refine lv_icmp_eq (tgt := 104) hx hb dX0_areChildrenDone_94 (by decide) (fun c_94 => ?_) (fun c_94 => ?_)
              · skip
                refine lv_iinc (v := (nI (i + 1))) (lv' := [(3, .int (nI (i + 1))), (6, .int 0), (5, .int (X 2 i)), (2, .int 1), (4, .ref (ga g [7, p, i])), (0, .ref (ga g [11, c, 0])), (1, .int (nI j))]) hx hb dX0_areChildrenDone_104 hl (k := 6) rfl (by first | rfl | exact nI_1 _ | exact nI_add _ _) (by decide) rfl (fun ls hl => ?_)
                refine lv_goto (tgt := 4) hx hb dX0_areChildrenDone_107 (by decide) ?_
                exact ih4 (i + 1) _ _ _ (by omega) (by first | exact absurd (c_55.symm.trans c_87) (by decide) | exact absurd (c_55.symm.trans c_94) (by decide) | (show (_ && (_ || _)) = true; rw [hd]; simp [sOpt, vP, *])) (by omega) hH hS (lv_sub hl [5, 6, 3, 0] (by first | rfl | (show _ = [_, _, _, _]; simp only [lv_pick, List.filterMap_cons, List.filterMap_nil]; simp [sHas, b01, vP, *])))
              · skip
                refine lv_iload hx hb dX0_areChildrenDone_97 (lv_at hl 0 rfl) ?_
                refine lv_if_ne (tgt := 104) hx hb dX0_areChildrenDone_99 (by decide) (fun q_ => absurd (by decide) q_) (fun _ => ?_)
                refine lv_iconst (v := 0) hx hb dX0_areChildrenDone_102 (by decide) ?_
                exact x_zret hx hb hr hlocks hS dX0_areChildrenDone_103 rfl (b01_f (by rw [sDon_mono (i + 1) _ (by omega) (show (_ && (_ || _)) = false from by rw [hd]; simp [sOpt, vP, *])]; exact Bool.and_false _)) hH
          · skip
            refine lv_aload hx hb dX0_areChildrenDone_58 (lv_at hl 2 rfl) ?_
            refine x_get (C := RX5) (T := TX5) (N := 7) (ci := 5) hx hb hts iu5 hown hK hH (id := [7, p, i]) (by first | trivial | (simp only [xD]; omega) | (simp [xD]; done) | (simp [xD]; omega)) rfl rfl (by decide) 0 (by decide) (hts _ tw327) (fun _ h9 => h9) rfl (v := .int (I [7, p, i] 0)) rfl dX0_areChildrenDone_60 ?_
            refine lv_bipush (v := 116) hx hb dX0_areChildrenDone_63 (by decide) ?_
            refine lv_icmp_ne (tgt := 80) hx hb dX0_areChildrenDone_65 (by decide) (fun c_65 => ?_) (fun c_65 => ?_)
            · skip
              refine lv_iconst (v := 0) hx hb dX0_areChildrenDone_80 (by decide) ?_
              refine lv_istore (lv' := [(6, .int 0), (5, .int (X 2 i)), (2, .int 1), (4, .ref (ga g [7, p, i])), (0, .ref (ga g [11, c, 0])), (1, .int (nI j)), (3, .int (nI i))]) hx hb dX0_areChildrenDone_81 hl (by decide) rfl (fun ls hl => ?_)
              refine lv_iload hx hb dX0_areChildrenDone_83 (lv_at hl 1 rfl) ?_
              refine lv_bipush (v := 99) hx hb dX0_areChildrenDone_85 (by decide) ?_
              refine lv_icmp_eq (tgt := 104) hx hb dX0_areChildrenDone_87 (by decide) (fun c_87 => ?_) (fun c_87 => ?_)
              · skip
                refine lv_iinc (v := (nI (i + 1))) (lv' := [(3, .int (nI (i + 1))), (6, .int 0), (5, .int (X 2 i)), (2, .int 1), (4, .ref (ga g [7, p, i])), (0, .ref (ga g [11, c, 0])), (1, .int (nI j))]) hx hb dX0_areChildrenDone_104 hl (k := 6) rfl (by first | rfl | exact nI_1 _ | exact nI_add _ _) (by decide) rfl (fun ls hl => ?_)
                refine lv_goto (tgt := 4) hx hb dX0_areChildrenDone_107 (by decide) ?_
                exact ih4 (i + 1) _ _ _ (by omega) (by first | exact absurd (c_55.symm.trans c_87) (by decide) | exact absurd (c_55.symm.trans c_94) (by decide) | (show (_ && (_ || _)) = true; rw [hd]; simp [sOpt, vP, *])) (by omega) hH hS (lv_sub hl [5, 6, 3, 0] (by first | rfl | (show _ = [_, _, _, _]; simp only [lv_pick, List.filterMap_cons, List.filterMap_nil]; simp [sHas, b01, vP, *])))
              · skip
                refine lv_iload hx hb dX0_areChildrenDone_90 (lv_at hl 1 rfl) ?_
                refine lv_bipush (v := 120) hx hb dX0_areChildrenDone_92 (by decide) ?_
                refine lv_icmp_eq (tgt := 104) hx hb dX0_areChildrenDone_94 (by decide) (fun c_94 => ?_) (fun c_94 => ?_)
                · skip
                  refine lv_iinc (v := (nI (i + 1))) (lv' := [(3, .int (nI (i + 1))), (6, .int 0), (5, .int (X 2 i)), (2, .int 1), (4, .ref (ga g [7, p, i])), (0, .ref (ga g [11, c, 0])), (1, .int (nI j))]) hx hb dX0_areChildrenDone_104 hl (k := 6) rfl (by first | rfl | exact nI_1 _ | exact nI_add _ _) (by decide) rfl (fun ls hl => ?_)
                  refine lv_goto (tgt := 4) hx hb dX0_areChildrenDone_107 (by decide) ?_
                  exact ih4 (i + 1) _ _ _ (by omega) (by first | exact absurd (c_55.symm.trans c_87) (by decide) | exact absurd (c_55.symm.trans c_94) (by decide) | (show (_ && (_ || _)) = true; rw [hd]; simp [sOpt, vP, *])) (by omega) hH hS (lv_sub hl [5, 6, 3, 0] (by first | rfl | (show _ = [_, _, _, _]; simp only [lv_pick, List.filterMap_cons, List.filterMap_nil]; simp [sHas, b01, vP, *])))
                · skip
                  refine lv_iload hx hb dX0_areChildrenDone_97 (lv_at hl 0 rfl) ?_
                  refine lv_if_ne (tgt := 104) hx hb dX0_areChildrenDone_99 (by decide) (fun q_ => absurd (by decide) q_) (fun _ => ?_)
                  refine lv_iconst (v := 0) hx hb dX0_areChildrenDone_102 (by decide) ?_
                  exact x_zret hx hb hr hlocks hS dX0_areChildrenDone_103 rfl (b01_f (by rw [sDon_mono (i + 1) _ (by omega) (show (_ && (_ || _)) = false from by rw [hd]; simp [sOpt, vP, *])]; exact Bool.and_false _)) hH
            · skip
              refine lv_aload hx hb dX0_areChildrenDone_68 (lv_at hl 2 rfl) ?_
              refine x_get (C := RX5) (T := TX5) (N := 7) (ci := 5) hx hb hts iu5 hown hK hH (id := [7, p, i]) (by first | trivial | (simp only [xD]; omega) | (simp [xD]; done) | (simp [xD]; omega)) rfl rfl (by decide) 4 (by decide) (hts _ tw338) (fun _ h9 => h9) rfl (v := .int (I [7, p, i] 4)) rfl dX0_areChildrenDone_70 ?_
              refine lv_if_ne (tgt := 80) hx hb dX0_areChildrenDone_73 (by decide) (fun c_73 => ?_) (fun c_73 => ?_)
              · skip
                refine lv_iconst (v := 0) hx hb dX0_areChildrenDone_80 (by decide) ?_
                refine lv_istore (lv' := [(6, .int 0), (5, .int (X 2 i)), (2, .int 1), (4, .ref (ga g [7, p, i])), (0, .ref (ga g [11, c, 0])), (1, .int (nI j)), (3, .int (nI i))]) hx hb dX0_areChildrenDone_81 hl (by decide) rfl (fun ls hl => ?_)
                refine lv_iload hx hb dX0_areChildrenDone_83 (lv_at hl 1 rfl) ?_
                refine lv_bipush (v := 99) hx hb dX0_areChildrenDone_85 (by decide) ?_
                refine lv_icmp_eq (tgt := 104) hx hb dX0_areChildrenDone_87 (by decide) (fun c_87 => ?_) (fun c_87 => ?_)
                · skip
                  refine lv_iinc (v := (nI (i + 1))) (lv' := [(3, .int (nI (i + 1))), (6, .int 0), (5, .int (X 2 i)), (2, .int 1), (4, .ref (ga g [7, p, i])), (0, .ref (ga g [11, c, 0])), (1, .int (nI j))]) hx hb dX0_areChildrenDone_104 hl (k := 6) rfl (by first | rfl | exact nI_1 _ | exact nI_add _ _) (by decide) rfl (fun ls hl => ?_)
                  refine lv_goto (tgt := 4) hx hb dX0_areChildrenDone_107 (by decide) ?_
                  exact ih4 (i + 1) _ _ _ (by omega) (by first | exact absurd (c_55.symm.trans c_87) (by decide) | exact absurd (c_55.symm.trans c_94) (by decide) | (show (_ && (_ || _)) = true; rw [hd]; simp [sOpt, vP, *])) (by omega) hH hS (lv_sub hl [5, 6, 3, 0] (by first | rfl | (show _ = [_, _, _, _]; simp only [lv_pick, List.filterMap_cons, List.filterMap_nil]; simp [sHas, b01, vP, *])))
                · skip
                  refine lv_iload hx hb dX0_areChildrenDone_90 (lv_at hl 1 rfl) ?_
                  refine lv_bipush (v := 120) hx hb dX0_areChildrenDone_92 (by decide) ?_
                  refine lv_icmp_eq (tgt := 104) hx hb dX0_areChildrenDone_94 (by decide) (fun c_94 => ?_) (fun c_94 => ?_)
                  · skip
                    refine lv_iinc (v := (nI (i + 1))) (lv' := [(3, .int (nI (i + 1))), (6, .int 0), (5, .int (X 2 i)), (2, .int 1), (4, .ref (ga g [7, p, i])), (0, .ref (ga g [11, c, 0])), (1, .int (nI j))]) hx hb dX0_areChildrenDone_104 hl (k := 6) rfl (by first | rfl | exact nI_1 _ | exact nI_add _ _) (by decide) rfl (fun ls hl => ?_)
                    refine lv_goto (tgt := 4) hx hb dX0_areChildrenDone_107 (by decide) ?_
                    exact ih4 (i + 1) _ _ _ (by omega) (by first | exact absurd (c_55.symm.trans c_87) (by decide) | exact absurd (c_55.symm.trans c_94) (by decide) | (show (_ && (_ || _)) = true; rw [hd]; simp [sOpt, vP, *])) (by omega) hH hS (lv_sub hl [5, 6, 3, 0] (by first | rfl | (show _ = [_, _, _, _]; simp only [lv_pick, List.filterMap_cons, List.filterMap_nil]; simp [sHas, b01, vP, *])))
                  · skip
                    refine lv_iload hx hb dX0_areChildrenDone_97 (lv_at hl 0 rfl) ?_
                    refine lv_if_ne (tgt := 104) hx hb dX0_areChildrenDone_99 (by decide) (fun q_ => absurd (by decide) q_) (fun _ => ?_)
                    refine lv_iconst (v := 0) hx hb dX0_areChildrenDone_102 (by decide) ?_
                    exact x_zret hx hb hr hlocks hS dX0_areChildrenDone_103 rfl (b01_f (by rw [sDon_mono (i + 1) _ (by omega) (show (_ && (_ || _)) = false from by rw [hd]; simp [sOpt, vP, *])]; exact Bool.and_false _)) hH
              · skip
                refine lv_iconst (v := 1) hx hb dX0_areChildrenDone_76 (by decide) ?_
                refine lv_goto (tgt := 81) hx hb dX0_areChildrenDone_77 (by decide) ?_
                refine lv_istore (lv' := [(6, .int 1), (5, .int (X 2 i)), (2, .int 1), (4, .ref (ga g [7, p, i])), (0, .ref (ga g [11, c, 0])), (1, .int (nI j)), (3, .int (nI i))]) hx hb dX0_areChildrenDone_81 hl (by decide) rfl (fun ls hl => ?_)
                refine lv_iload hx hb dX0_areChildrenDone_83 (lv_at hl 1 rfl) ?_
                refine lv_bipush (v := 99) hx hb dX0_areChildrenDone_85 (by decide) ?_
                refine lv_icmp_eq (tgt := 104) hx hb dX0_areChildrenDone_87 (by decide) (fun c_87 => ?_) (fun c_87 => ?_)
                · skip
                  refine lv_iinc (v := (nI (i + 1))) (lv' := [(3, .int (nI (i + 1))), (6, .int 1), (5, .int (X 2 i)), (2, .int 1), (4, .ref (ga g [7, p, i])), (0, .ref (ga g [11, c, 0])), (1, .int (nI j))]) hx hb dX0_areChildrenDone_104 hl (k := 6) rfl (by first | rfl | exact nI_1 _ | exact nI_add _ _) (by decide) rfl (fun ls hl => ?_)
                  refine lv_goto (tgt := 4) hx hb dX0_areChildrenDone_107 (by decide) ?_
                  exact ih4 (i + 1) _ _ _ (by omega) (by first | exact absurd (c_55.symm.trans c_87) (by decide) | exact absurd (c_55.symm.trans c_94) (by decide) | (show (_ && (_ || _)) = true; rw [hd]; simp [sOpt, vP, *])) (by omega) hH hS (lv_sub hl [5, 6, 3, 0] (by first | rfl | (show _ = [_, _, _, _]; simp only [lv_pick, List.filterMap_cons, List.filterMap_nil]; simp [sHas, b01, vP, *])))
                · skip
                  refine lv_iload hx hb dX0_areChildrenDone_90 (lv_at hl 1 rfl) ?_
                  refine lv_bipush (v := 120) hx hb dX0_areChildrenDone_92 (by decide) ?_
                  refine lv_icmp_eq (tgt := 104) hx hb dX0_areChildrenDone_94 (by decide) (fun c_94 => ?_) (fun c_94 => ?_)
                  · skip
                    refine lv_iinc (v := (nI (i + 1))) (lv' := [(3, .int (nI (i + 1))), (6, .int 1), (5, .int (X 2 i)), (2, .int 1), (4, .ref (ga g [7, p, i])), (0, .ref (ga g [11, c, 0])), (1, .int (nI j))]) hx hb dX0_areChildrenDone_104 hl (k := 6) rfl (by first | rfl | exact nI_1 _ | exact nI_add _ _) (by decide) rfl (fun ls hl => ?_)
                    refine lv_goto (tgt := 4) hx hb dX0_areChildrenDone_107 (by decide) ?_
                    exact ih4 (i + 1) _ _ _ (by omega) (by first | exact absurd (c_55.symm.trans c_87) (by decide) | exact absurd (c_55.symm.trans c_94) (by decide) | (show (_ && (_ || _)) = true; rw [hd]; simp [sOpt, vP, *])) (by omega) hH hS (lv_sub hl [5, 6, 3, 0] (by first | rfl | (show _ = [_, _, _, _]; simp only [lv_pick, List.filterMap_cons, List.filterMap_nil]; simp [sHas, b01, vP, *])))
                  · skip
                    refine lv_iload hx hb dX0_areChildrenDone_97 (lv_at hl 0 rfl) ?_
                    refine lv_if_ne (tgt := 104) hx hb dX0_areChildrenDone_99 (by decide) (fun _ => ?_) (fun q_ => absurd q_ (by decide))
                    refine lv_iinc (v := (nI (i + 1))) (lv' := [(3, .int (nI (i + 1))), (6, .int 1), (5, .int (X 2 i)), (2, .int 1), (4, .ref (ga g [7, p, i])), (0, .ref (ga g [11, c, 0])), (1, .int (nI j))]) hx hb dX0_areChildrenDone_104 hl (k := 6) rfl (by first | rfl | exact nI_1 _ | exact nI_add _ _) (by decide) rfl (fun ls hl => ?_)
                    refine lv_goto (tgt := 4) hx hb dX0_areChildrenDone_107 (by decide) ?_
                    exact ih4 (i + 1) _ _ _ (by omega) (by first | exact absurd (c_55.symm.trans c_87) (by decide) | exact absurd (c_55.symm.trans c_94) (by decide) | (show (_ && (_ || _)) = true; rw [hd]; simp [sOpt, vP, *])) (by omega) hH hS (lv_sub hl [5, 6, 3, 0] (by first | rfl | (show _ = [_, _, _, _]; simp only [lv_pick, List.filterMap_cons, List.filterMap_nil]; simp [sHas, b01, vP, *])))
        · skip
          refine lv_goto (tgt := 104) hx hb dX0_areChildrenDone_39 (by decide) ?_
          refine lv_iinc (v := (nI (i + 1))) (lv' := [(3, .int (nI (i + 1))), (4, .ref (ga g [7, p, i])), (0, .ref (ga g [11, c, 0])), (1, .int (nI j)), (2, .int (b01 (sHas (vP I p) j i)))]) hx hb dX0_areChildrenDone_104 hl (k := 4) rfl (by first | rfl | exact nI_1 _ | exact nI_add _ _) (by decide) rfl (fun ls hl => ?_)
          refine lv_goto (tgt := 4) hx hb dX0_areChildrenDone_107 (by decide) ?_
          exact ih4 (i + 1) _ _ _ (by omega) (by show (_ && (_ || _)) = true; rw [hd]; simp [vP, *]) (by omega) hH hS (lv_sub hl [2, 3, 4, 0] (by first | rfl | (show _ = [_, _, _, _]; simp only [lv_pick, List.filterMap_cons, List.filterMap_nil]; simp [sHas, b01, vP, *])))
  exact L4 _ 0 _ _ _ (by omega) rfl (Nat.lt_succ_self _) hH hS (lv_sub hl [2, 3, 1, 0] (by first | rfl | (show _ = [_, _, _, _]; simp only [lv_pick, List.filterMap_cons, List.filterMap_nil]; simp [sHas, b01, vP, *])))
