/-! CONTRACTS: the model, what is asked of a case -/
/-- ids whose rows say what the plans are -/
def pK (id : List Nat) : Bool := match id with
  | [5, _] => true
  | [7, _, _] => true
  | [8, _, _, _] => true
  | [10, _, _, _, _] => true
  | [22, _, _] => true
  | [23, _, _, _] => true
  | [24, 8] => true
  | _ => false
theorem vP_same {I J : xI} (h : ∀ id, pK id = true → J id = I id) (p : Nat) : vP J p = vP I p := funext fun j => h [7, p, j] rfl
theorem vC_same {I J : xI} (h : ∀ id, pK id = true → J id = I id) (p : Nat) : vC J p = vC I p := funext fun j => funext fun w => funext fun k => h [10, p, j, w, k] rfl
theorem mA.same {h : xS} {I J : xI} {p : Nat} (hA : mA h I p) (e : ∀ id, pK id = true → J id = I id) : mA h J p := by
  have e22 : ∀ a b, J [22, a, b] = I [22, a, b] := fun a b => e _ rfl
  have e23 : ∀ a b d, J [23, a, b, d] = I [23, a, b, d] := fun a b d => e _ rfl
  have e7 : ∀ a b, J [7, a, b] = I [7, a, b] := fun a b => e _ rfl
  have e10 : ∀ a b d k, J [10, a, b, d, k] = I [10, a, b, d, k] := fun a b d k => e _ rfl
  have e8 : J [24, 8] = I [24, 8] := e _ rfl
  unfold mA mS at *
  simp only [e22, e23, e7, e10, e8]
  exact hA
theorem xWp.same {h : xS} {I J : xI} {p : Nat} (hW : xWp h I p) (e : ∀ id, pK id = true → J id = I id) : xWp h J p := by
  have e7 : ∀ a b, J [7, a, b] = I [7, a, b] := fun a b => e _ rfl
  have e10 : ∀ a b d k, J [10, a, b, d, k] = I [10, a, b, d, k] := fun a b d k => e _ rfl
  have e8 : ∀ a b d, J [8, a, b, d] = I [8, a, b, d] := fun a b d => e _ rfl
  have e5 : J [5, p] = I [5, p] := e _ rfl
  unfold xWp xWs at *
  simp only [e7, e10, e8, e5]
  exact hW
theorem pK_20 (I : xI) (k : Nat) (v : Int32) : ∀ id, pK id = true → up I [20] k v id = I id := fun id h => up_id (fun e => by subst e; cases h)
def mLt (P : Nat → Nat → Int32) (X : xX) (j : Nat) : Bool := sAct P X j && decide (P j 5 < X 4 j)
set_option maxHeartbeats 1000000 in
set_option maxRecDepth 100000 in
theorem c_X7_isLateNow (l : Launch) (g : xG) (h : xS) (I : xI) (n c : Nat) (X : xX) (hc : c < 4) (p : Nat) (hpp : p < 3) (hpo : I [24, 11] c = nI p) (hA : mA h I p) (hW : xWp h I p) (j : Nat) (hj : j < sSz h p)  : xM l yX7_isLateNow (xws yX7_isLateNow cX7_isLateNow 3 (some FieldType.boolean)) 1 12 g [.ref (ga g [20]), .int (nI c), .int (nI j)] (xR g (xD h) (mW I c X) (xFh h) n) (some (.int (b01 (mLt (vP I p) X j)))) (xR g (xD h) (mW I c X) (xFh h) n) 0 0 := by
  refine xM.of (by decide) (Nat.le_of_ble_eq_true rfl) ?_
  intro P_ e_ s m_ bl_ mt_ cd_ ls hx hb hr hown hlocks hml hnm hE hK hts hH hS hl
  have hl : lv_has ls 3 [(0, .ref (ga g [20])), (1, .int (nI c)), (2, .int (nI j))] := hl
  have h8 := hW.1
  refine lv_aload_n hx hb dX7_isLateNow_0 rfl (lv_at hl 0 rfl) ?_
  refine x_get (C := RX7) (T := TX7) (N := 24) (ci := 7) hx hb hts iu7 hown hK hH (id := [20]) (by first | trivial | (simp only [xD]; omega) | (simp [xD]; done) | (simp [xD]; omega)) rfl rfl (by decide) 0 (by decide) (hts _ tw839) (fun _ h9 => h9) rfl (v := .ref (ga g [21, 0])) rfl dX7_isLateNow_1 ?_
  refine lv_aload_n hx hb dX7_isLateNow_4 rfl (lv_at hl 0 rfl) ?_
  refine x_get (C := RX7) (T := TX7) (N := 24) (ci := 7) hx hb hts iu7 hown hK hH (id := [20]) (by first | trivial | (simp only [xD]; omega) | (simp [xD]; done) | (simp [xD]; omega)) rfl rfl (by decide) 11 (by decide) (hts _ tw850) (fun _ h9 => h9) rfl (v := .ref (ga g [24, 11])) rfl dX7_isLateNow_5 ?_
  refine lv_iload_n hx hb dX7_isLateNow_8 rfl (lv_at hl 1 rfl) ?_
  refine x_iald hx hb hK hH (id := [24, 11]) (by first | trivial | (simp only [xD]; omega) | (simp [xD]; done) | (simp [xD]; omega)) (L := 4) rfl (r := (I [24, 11])) rfl c rfl (by omega) (by decide) dX7_isLateNow_9 ?_
  rw [show (I [24, 11] c) = (nI p) from hpo]
  refine x_aald hx hb hK hH (id := [21, 0]) (by first | trivial | (simp only [xD]; omega) | (simp [xD]; done) | (simp [xD]; omega)) 8 (L := 3) rfl (by decide) p rfl (by omega) (by decide) (v := .ref (ga g [22, 0, p])) (by show rq _ (if _ then _ else _) = _; rw [if_pos (show p < xLn 0 by show _ < 3; omega)]; rfl) dX7_isLateNow_10 ?_
  refine lv_iload_n hx hb dX7_isLateNow_11 rfl (lv_at hl 2 rfl) ?_
  refine x_cald hx hb hK hH (id := [22, 0, p]) (by first | trivial | (simp only [xD]; omega) | (simp [xD]; done) | (simp [xD]; omega)) (L := 8) rfl (r := (I [22, 0, p])) rfl j rfl (by omega) (by decide) dX7_isLateNow_12 ?_
  rw [show (I [22, 0, p] j) = (I [7, p, j] 0) from (hA.2 j (by omega)).1]
  refine lv_bipush (v := 116) hx hb dX7_isLateNow_13 (by decide) ?_
  refine lv_icmp_ne (tgt := 59) hx hb dX7_isLateNow_15 (by decide) (fun c_15 => ?_) (fun c_15 => ?_)
  · skip
    refine lv_iconst (v := 0) hx hb dX7_isLateNow_59 (by decide) ?_
    exact x_zret hx hb hr hlocks hS dX7_isLateNow_60 rfl (b01_f (by unfold mLt sAct; rw [decide_eq_false (show ¬ vP I p j 0 = 116 from c_15)]; rfl)) hH
  · skip
    refine lv_aload_n hx hb dX7_isLateNow_18 rfl (lv_at hl 0 rfl) ?_
    refine x_get (C := RX7) (T := TX7) (N := 24) (ci := 7) hx hb hts iu7 hown hK hH (id := [20]) (by first | trivial | (simp only [xD]; omega) | (simp [xD]; done) | (simp [xD]; omega)) rfl rfl (by decide) 14 (by decide) (hts _ tw853) (fun _ h9 => h9) rfl (v := .ref (ga g [21, 14])) rfl dX7_isLateNow_19 ?_
    refine lv_iload_n hx hb dX7_isLateNow_22 rfl (lv_at hl 1 rfl) ?_
    refine x_aald hx hb hK hH (id := [21, 14]) (by first | trivial | (simp only [xD]; omega) | (simp [xD]; done) | (simp [xD]; omega)) 8 (L := 4) rfl (by decide) c rfl (by omega) (by decide) (v := .ref (ga g [22, 14, c])) (by show rq _ (if _ then _ else _) = _; rw [if_pos (show c < xLn 14 by show _ < 4; omega)]; rfl) dX7_isLateNow_23 ?_
    refine lv_iload_n hx hb dX7_isLateNow_24 rfl (lv_at hl 2 rfl) ?_
    refine x_cald hx hb hK hH (id := [22, 14, c]) (by first | trivial | (simp only [xD]; omega) | (simp [xD]; done) | (simp [xD]; omega)) (L := 8) rfl (r := (X 2)) (mW_r2 _ _ _) j rfl (by omega) (by decide) dX7_isLateNow_25 ?_
    refine lv_bipush (v := 97) hx hb dX7_isLateNow_26 (by decide) ?_
    refine lv_icmp_ne (tgt := 59) hx hb dX7_isLateNow_28 (by decide) (fun c_28 => ?_) (fun c_28 => ?_)
    · skip
      refine lv_iconst (v := 0) hx hb dX7_isLateNow_59 (by decide) ?_
      exact x_zret hx hb hr hlocks hS dX7_isLateNow_60 rfl (b01_f (by unfold mLt sAct; rw [decide_eq_false c_28, Bool.and_false]; rfl)) hH
    · skip
      refine lv_aload_n hx hb dX7_isLateNow_31 rfl (lv_at hl 0 rfl) ?_
      refine x_get (C := RX7) (T := TX7) (N := 24) (ci := 7) hx hb hts iu7 hown hK hH (id := [20]) (by first | trivial | (simp only [xD]; omega) | (simp [xD]; done) | (simp [xD]; omega)) rfl rfl (by decide) 15 (by decide) (hts _ tw854) (fun _ h9 => h9) rfl (v := .ref (ga g [21, 15])) rfl dX7_isLateNow_32 ?_
      refine lv_iload_n hx hb dX7_isLateNow_35 rfl (lv_at hl 1 rfl) ?_
      refine x_aald hx hb hK hH (id := [21, 15]) (by first | trivial | (simp only [xD]; omega) | (simp [xD]; done) | (simp [xD]; omega)) 7 (L := 4) rfl (by decide) c rfl (by omega) (by decide) (v := .ref (ga g [22, 15, c])) (by show rq _ (if _ then _ else _) = _; rw [if_pos (show c < xLn 15 by show _ < 4; omega)]; rfl) dX7_isLateNow_36 ?_
      refine lv_iload_n hx hb dX7_isLateNow_37 rfl (lv_at hl 2 rfl) ?_
      refine x_iald hx hb hK hH (id := [22, 15, c]) (by first | trivial | (simp only [xD]; omega) | (simp [xD]; done) | (simp [xD]; omega)) (L := 8) rfl (r := (X 4)) (mW_r4 _ _ _) j rfl (by omega) (by decide) dX7_isLateNow_38 ?_
      refine lv_aload_n hx hb dX7_isLateNow_39 rfl (lv_at hl 0 rfl) ?_
      refine x_get (C := RX7) (T := TX7) (N := 24) (ci := 7) hx hb hts iu7 hown hK hH (id := [20]) (by first | trivial | (simp only [xD]; omega) | (simp [xD]; done) | (simp [xD]; omega)) rfl rfl (by decide) 3 (by decide) (hts _ tw842) (fun _ h9 => h9) rfl (v := .ref (ga g [21, 3])) rfl dX7_isLateNow_40 ?_
      refine lv_aload_n hx hb dX7_isLateNow_43 rfl (lv_at hl 0 rfl) ?_
      refine x_get (C := RX7) (T := TX7) (N := 24) (ci := 7) hx hb hts iu7 hown hK hH (id := [20]) (by first | trivial | (simp only [xD]; omega) | (simp [xD]; done) | (simp [xD]; omega)) rfl rfl (by decide) 11 (by decide) (hts _ tw850) (fun _ h9 => h9) rfl (v := .ref (ga g [24, 11])) rfl dX7_isLateNow_44 ?_
      refine lv_iload_n hx hb dX7_isLateNow_47 rfl (lv_at hl 1 rfl) ?_
      refine x_iald hx hb hK hH (id := [24, 11]) (by first | trivial | (simp only [xD]; omega) | (simp [xD]; done) | (simp [xD]; omega)) (L := 4) rfl (r := (I [24, 11])) rfl c rfl (by omega) (by decide) dX7_isLateNow_48 ?_
      rw [show (I [24, 11] c) = (nI p) from hpo]
      refine x_aald hx hb hK hH (id := [21, 3]) (by first | trivial | (simp only [xD]; omega) | (simp [xD]; done) | (simp [xD]; omega)) 7 (L := 3) rfl (by decide) p rfl (by omega) (by decide) (v := .ref (ga g [22, 3, p])) (by show rq _ (if _ then _ else _) = _; rw [if_pos (show p < xLn 3 by show _ < 3; omega)]; rfl) dX7_isLateNow_49 ?_
      refine lv_iload_n hx hb dX7_isLateNow_50 rfl (lv_at hl 2 rfl) ?_
      refine x_iald hx hb hK hH (id := [22, 3, p]) (by first | trivial | (simp only [xD]; omega) | (simp [xD]; done) | (simp [xD]; omega)) (L := 8) rfl (r := (I [22, 3, p])) rfl j rfl (by omega) (by decide) dX7_isLateNow_51 ?_
      rw [show (I [22, 3, p] j) = (I [7, p, j] 5) from (hA.2 j (by omega)).2.2.2.2.1]
      refine lv_icmp_le (tgt := 59) hx hb dX7_isLateNow_52 (by decide) (fun c_52 => ?_) (fun c_52 => ?_)
      · skip
        refine lv_iconst (v := 0) hx hb dX7_isLateNow_59 (by decide) ?_
        exact x_zret hx hb hr hlocks hS dX7_isLateNow_60 rfl (b01_f (by unfold mLt; rw [decide_eq_false (show ¬ vP I p j 5 < X 4 j from Int32.not_lt.mpr c_52)]; exact Bool.and_false _)) hH
      · skip
        refine lv_iconst (v := 1) hx hb dX7_isLateNow_55 (by decide) ?_
        refine lv_goto (tgt := 60) hx hb dX7_isLateNow_56 (by decide) ?_
        exact x_zret hx hb hr hlocks hS dX7_isLateNow_60 rfl (b01_t (by unfold mLt sAct; rw [decide_eq_true (show vP I p j 0 = 116 from c_15), decide_eq_true c_28, decide_eq_true (show vP I p j 5 < X 4 j from i_nle c_52)]; rfl)) hH

set_option maxHeartbeats 1000000 in
set_option maxRecDepth 100000 in
theorem c_X7_inState (l : Launch) (g : xG) (h : xS) (I : xI) (n c : Nat) (X : xX) (hc : c < 4) (p : Nat) (hpp : p < 3) (hpo : I [24, 11] c = nI p) (hA : mA h I p) (hW : xWp h I p) (v : Int32)  : xM l yX7_inState (xws yX7_inState cX7_inState 5 (some FieldType.int)) 1 12 g [.ref (ga g [20]), .int (nI c), .int v] (xR g (xD h) (mW I c X) (xFh h) n) (some (.int (nI (sCnt X v (sSz h p))))) (xR g (xD h) (mW I c X) (xFh h) n) 0 0 := by
  refine xM.of (by decide) (Nat.le_of_ble_eq_true rfl) ?_
  intro P_ e_ s m_ bl_ mt_ cd_ ls hx hb hr hown hlocks hml hnm hE hK hts hH hS hl
  have hl : lv_has ls 5 [(0, .ref (ga g [20])), (1, .int (nI c)), (2, .int v)] := hl
  have h8 := hW.1
  refine lv_iconst (v := 0) hx hb dX7_inState_0 (by decide) ?_
  refine lv_istore_n (lv' := [(3, .int 0), (0, .ref (ga g [20])), (1, .int (nI c)), (2, .int v)]) hx hb dX7_inState_1 rfl hl (by decide) rfl (fun ls hl => ?_)
  refine lv_iconst (v := 0) hx hb dX7_inState_2 (by decide) ?_
  refine lv_istore (lv' := [(4, .int 0), (3, .int 0), (0, .ref (ga g [20])), (1, .int (nI c)), (2, .int v)]) hx hb dX7_inState_3 hl (by decide) rfl (fun ls hl => ?_)
  have L5 : ∀ (fu : Nat) (i : Nat) (H : Heap) (locs : List Loc) (ls : Array Slot), (i ≤ sSz h p) → sSz h p - i < fu → xR g (xD h) (mW I c X) (xFh h) n H → va_S (gA g) s.heap H locs → lv_has ls 5 [(0, .ref (ga g [20])), (1, .int (nI c)), (2, .int v), (3, .int (nI (sCnt X v i))), (4, .int (nI i))] → W P_ l e_ { frames := 1, cells := 0, slots := 0, locals := 12 } s m_ ([.ref (ga g [20]), .int (nI c), .int v] : List Value).toArray bl_ mt_ cd_ H locs 0 0 (MQ bl_ (xQc g (some (.int (nI (sCnt X v (sSz h p))))) (xR g (xD h) (mW I c X) (xFh h) n)) ([.ref (ga g [20]), .int (nI c), .int v] : List Value).toArray s 0 0 (gA g)) (F0 m_ 5 ls []) := by
    intro fu
    induction fu with
    | zero => intro i H locs ls hi hfu; exact absurd hfu (Nat.not_lt_zero _)
    | succ fu ih5 =>
      intro i H locs ls hi hfu hH hS hl
      refine lv_iload hx hb dX7_inState_5 (lv_at hl 4 rfl) ?_
      refine lv_aload_n hx hb dX7_inState_7 rfl (lv_at hl 0 rfl) ?_
      refine x_get (C := RX7) (T := TX7) (N := 24) (ci := 7) hx hb hts iu7 hown hK hH (id := [20]) (by first | trivial | (simp only [xD]; omega) | (simp [xD]; done) | (simp [xD]; omega)) rfl rfl (by decide) 8 (by decide) (hts _ tw847) (fun _ h9 => h9) rfl (v := .ref (ga g [24, 8])) rfl dX7_inState_8 ?_
      refine lv_aload_n hx hb dX7_inState_11 rfl (lv_at hl 0 rfl) ?_
      refine x_get (C := RX7) (T := TX7) (N := 24) (ci := 7) hx hb hts iu7 hown hK hH (id := [20]) (by first | trivial | (simp only [xD]; omega) | (simp [xD]; done) | (simp [xD]; omega)) rfl rfl (by decide) 11 (by decide) (hts _ tw850) (fun _ h9 => h9) rfl (v := .ref (ga g [24, 11])) rfl dX7_inState_12 ?_
      refine lv_iload_n hx hb dX7_inState_15 rfl (lv_at hl 1 rfl) ?_
      refine x_iald hx hb hK hH (id := [24, 11]) (by first | trivial | (simp only [xD]; omega) | (simp [xD]; done) | (simp [xD]; omega)) (L := 4) rfl (r := (I [24, 11])) rfl c rfl (by omega) (by decide) dX7_inState_16 ?_
      rw [show (I [24, 11] c) = (nI p) from hpo]
      refine x_iald hx hb hK hH (id := [24, 8]) (by first | trivial | (simp only [xD]; omega) | (simp [xD]; done) | (simp [xD]; omega)) (L := 3) rfl (r := (I [24, 8])) rfl p rfl (by omega) (by decide) dX7_inState_17 ?_
      rw [show (I [24, 8] p) = (nI (sSz h p)) from hA.1]
      refine lv_icmp_ge (tgt := 48) hx hb dX7_inState_18 (by decide) (fun c_18 => ?_) (fun c_18 => ?_)
      · skip
        have c_18 := (nI_leI (a := (sSz h p)) (b := i) (by omega) (by omega)).mp c_18
        refine lv_iload_n hx hb dX7_inState_48 rfl (lv_at hl 3 rfl) ?_
        exact x_iret hx hb hr hlocks hS dX7_inState_49 (by rw [show i = sSz h p by omega]) hH
      · skip
        have c_18 : ¬ _ := fun z_ => c_18 ((nI_leI (a := (sSz h p)) (b := i) (by omega) (by omega)).mpr z_)
        refine lv_iload_n hx hb dX7_inState_21 rfl (lv_at hl 3 rfl) ?_
        refine lv_aload_n hx hb dX7_inState_22 rfl (lv_at hl 0 rfl) ?_
        refine x_get (C := RX7) (T := TX7) (N := 24) (ci := 7) hx hb hts iu7 hown hK hH (id := [20]) (by first | trivial | (simp only [xD]; omega) | (simp [xD]; done) | (simp [xD]; omega)) rfl rfl (by decide) 14 (by decide) (hts _ tw853) (fun _ h9 => h9) rfl (v := .ref (ga g [21, 14])) rfl dX7_inState_23 ?_
        refine lv_iload_n hx hb dX7_inState_26 rfl (lv_at hl 1 rfl) ?_
        refine x_aald hx hb hK hH (id := [21, 14]) (by first | trivial | (simp only [xD]; omega) | (simp [xD]; done) | (simp [xD]; omega)) 8 (L := 4) rfl (by decide) c rfl (by omega) (by decide) (v := .ref (ga g [22, 14, c])) (by show rq _ (if _ then _ else _) = _; rw [if_pos (show c < xLn 14 by show _ < 4; omega)]; rfl) dX7_inState_27 ?_
        refine lv_iload hx hb dX7_inState_28 (lv_at hl 4 rfl) ?_
        refine x_cald hx hb hK hH (id := [22, 14, c]) (by first | trivial | (simp only [xD]; omega) | (simp [xD]; done) | (simp [xD]; omega)) (L := 8) rfl (r := (X 2)) (mW_r2 _ _ _) i rfl (by omega) (by decide) dX7_inState_30 ?_
        refine lv_iload_n hx hb dX7_inState_31 rfl (lv_at hl 2 rfl) ?_
        refine lv_icmp_ne (tgt := 39) hx hb dX7_inState_32 (by decide) (fun c_32 => ?_) (fun c_32 => ?_)
        · skip
          refine lv_iconst (v := 0) hx hb dX7_inState_39 (by decide) ?_
          refine lv_iadd hx hb dX7_inState_40 ?_
          rw [show ((nI (sCnt X v i)) + 0) = (nI (sCnt X v (i + 1))) from (by show _ = nI (sCnt X v i + (if X 2 i = v then 1 else 0)); rw [if_neg c_32]; exact Int32.add_zero _)]
          refine lv_istore_n (lv' := [(3, .int (nI (sCnt X v (i + 1)))), (0, .ref (ga g [20])), (1, .int (nI c)), (2, .int v), (4, .int (nI i))]) hx hb dX7_inState_41 rfl hl (by decide) rfl (fun ls hl => ?_)
          refine lv_iinc (v := (nI (i + 1))) (lv' := [(4, .int (nI (i + 1))), (3, .int (nI (sCnt X v (i + 1)))), (0, .ref (ga g [20])), (1, .int (nI c)), (2, .int v)]) hx hb dX7_inState_42 hl (k := 4) rfl (by first | rfl | exact nI_1 _ | exact nI_add _ _) (by decide) rfl (fun ls hl => ?_)
          refine lv_goto (tgt := 5) hx hb dX7_inState_45 (by decide) ?_
          exact ih5 (i + 1) _ _ _ (by omega) (by omega) hH hS (lv_sub hl [2, 3, 4, 1, 0] rfl)
        · skip
          refine lv_iconst (v := 1) hx hb dX7_inState_35 (by decide) ?_
          refine lv_goto (tgt := 40) hx hb dX7_inState_36 (by decide) ?_
          refine lv_iadd hx hb dX7_inState_40 ?_
          rw [show ((nI (sCnt X v i)) + 1) = (nI (sCnt X v (i + 1))) from (by show _ = nI (sCnt X v i + (if X 2 i = v then 1 else 0)); rw [if_pos c_32]; exact nI_1 _)]
          refine lv_istore_n (lv' := [(3, .int (nI (sCnt X v (i + 1)))), (0, .ref (ga g [20])), (1, .int (nI c)), (2, .int v), (4, .int (nI i))]) hx hb dX7_inState_41 rfl hl (by decide) rfl (fun ls hl => ?_)
          refine lv_iinc (v := (nI (i + 1))) (lv' := [(4, .int (nI (i + 1))), (3, .int (nI (sCnt X v (i + 1)))), (0, .ref (ga g [20])), (1, .int (nI c)), (2, .int v)]) hx hb dX7_inState_42 hl (k := 4) rfl (by first | rfl | exact nI_1 _ | exact nI_add _ _) (by decide) rfl (fun ls hl => ?_)
          refine lv_goto (tgt := 5) hx hb dX7_inState_45 (by decide) ?_
          exact ih5 (i + 1) _ _ _ (by omega) (by omega) hH hS (lv_sub hl [2, 3, 4, 1, 0] rfl)
  exact L5 _ 0 _ _ _ (Nat.zero_le _) (Nat.lt_succ_self _) hH hS (lv_sub hl [2, 3, 4, 1, 0] rfl)

set_option maxHeartbeats 1000000 in
set_option maxRecDepth 100000 in
theorem c_X7_active (l : Launch) (g : xG) (h : xS) (I : xI) (n : Nat) (c : Nat) (X : xX) (m : Nat) (hm4 : m ≤ 4) (hm : I [20] 20 = nI m) (hc : c < m) (p : Nat) (hpp : p < 3) (hpo : I [24, 11] c = nI p) (hA : mA h I p) (hW : xWp h I p)  : xM l yX7_active (xws yX7_active cX7_active 2 (some FieldType.int)) 4 76 g [.ref (ga g [20]), .int (nI c)] (xR g (xD h) (mW I c X) (xFh h) n) (some (.int (nI (sCnt X 97 (sSz h p))))) (xR g (xD h) (mW (up I [20] 23 0) c X) (xFh h) n) 0 0 := by
  refine xM.of (by decide) (Nat.le_of_ble_eq_true rfl) ?_
  intro P_ e_ s m_ bl_ mt_ cd_ ls hx hb hr hown hlocks hml hnm hE hK hts hH hS hl
  have hl : lv_has ls 2 [(0, .ref (ga g [20])), (1, .int (nI c))] := hl
  have h8 := hW.1
  have hc4 : c < 4 := by omega
  refine lv_aload_n hx hb dX7_active_0 rfl (lv_at hl 0 rfl) ?_
  refine lv_iload_n hx hb dX7_active_1 rfl (lv_at hl 1 rfl) ?_
  refine x_V1 hx hb hml hown hE hS hl.1 cyX7_misses tw1090 (c_X7_misses_0 l g h (mW I c X) n m hm4 (by rw [mW_20 _ _ _ (by decide)]; exact hm) c hc) ⟨Nat.le_of_ble_eq_true rfl, Nat.le_of_ble_eq_true rfl⟩ ⟨Nat.le_of_ble_eq_true rfl, Nat.le_of_ble_eq_true rfl⟩ (x_recv hK hH (id := [20]) (by first | trivial | (simp only [xD]; omega) | (simp [xD]; done) | (simp [xD]; omega)) (ci := 7) rfl (by decide) rfl) hH rfl rfl (Nat.le_of_ble_eq_true rfl) dX7_active_2 (fun H locs hH hS => ?_)
  obtain ⟨I1_, hI1_⟩ : ∃ z, z = up I [20] 23 0 := ⟨_, rfl⟩
  rw [mW_u20 _ _ _ _ (by decide), ← hI1_] at hH
  have hsm : ∀ id, pK id = true → I1_ id = I id := by rw [hI1_]; exact pK_20 I 23 _
  have hpo1 : I1_ [24, 11] c = nI p := by rw [hI1_]; exact hpo
  have hA1 := hA.same hsm
  have hW1 := hW.same hsm
  have e1 := vP_same hsm p
  have e2 := vC_same hsm p
  refine lv_if_eq (tgt := 12) hx hb dX7_active_5 (by decide) (fun _ => ?_) (fun q_ => absurd (by decide) q_)
  refine lv_aload_n hx hb dX7_active_12 rfl (lv_at hl 0 rfl) ?_
  refine lv_iload_n hx hb dX7_active_13 rfl (lv_at hl 1 rfl) ?_
  refine lv_bipush (v := 97) hx hb dX7_active_14 (by decide) ?_
  refine x_V1 hx hb hml hown hE hS hl.1 cyX7_inState tw1102 (c_X7_inState l g h I1_ n c X hc4 p hpp hpo1 hA1 hW1 97) ⟨Nat.le_of_ble_eq_true rfl, Nat.le_of_ble_eq_true rfl⟩ ⟨Nat.le_of_ble_eq_true rfl, Nat.le_of_ble_eq_true rfl⟩ (x_recv hK hH (id := [20]) (by first | trivial | (simp only [xD]; omega) | (simp [xD]; done) | (simp [xD]; omega)) (ci := 7) rfl (by decide) rfl) hH rfl rfl (Nat.le_of_ble_eq_true rfl) dX7_active_16 (fun H locs hH hS => ?_)
  exact x_iret hx hb hr hlocks hS dX7_active_19 rfl (by rw [hI1_] at hH; exact hH)

set_option maxHeartbeats 1000000 in
set_option maxRecDepth 100000 in
theorem c_X7_doneShare (l : Launch) (g : xG) (h : xS) (I : xI) (n : Nat) (c : Nat) (X : xX) (m : Nat) (hm4 : m ≤ 4) (hm : I [20] 20 = nI m) (hc : c < m) (p : Nat) (hpp : p < 3) (hpo : I [24, 11] c = nI p) (hA : mA h I p) (hW : xWp h I p) (hz0 : 0 < sSz h p)  : xM l yX7_doneShare (xws yX7_doneShare cX7_doneShare 2 (some FieldType.float)) 4 76 g [.ref (ga g [20]), .int (nI c)] (xR g (xD h) (mW I c X) (xFh h) n) (some (.float (sShr (sCnt X 99 (sSz h p)) (sSz h p)))) (xR g (xD h) (mW (up I [20] 23 0) c X) (xFh h) n) 0 0 := by
  refine xM.of (by decide) (Nat.le_of_ble_eq_true rfl) ?_
  intro P_ e_ s m_ bl_ mt_ cd_ ls hx hb hr hown hlocks hml hnm hE hK hts hH hS hl
  have hl : lv_has ls 2 [(0, .ref (ga g [20])), (1, .int (nI c))] := hl
  have h8 := hW.1
  have hc4 : c < 4 := by omega
  refine lv_aload_n hx hb dX7_doneShare_0 rfl (lv_at hl 0 rfl) ?_
  refine lv_iload_n hx hb dX7_doneShare_1 rfl (lv_at hl 1 rfl) ?_
  refine x_V1 hx hb hml hown hE hS hl.1 cyX7_misses tw1090 (c_X7_misses_0 l g h (mW I c X) n m hm4 (by rw [mW_20 _ _ _ (by decide)]; exact hm) c hc) ⟨Nat.le_of_ble_eq_true rfl, Nat.le_of_ble_eq_true rfl⟩ ⟨Nat.le_of_ble_eq_true rfl, Nat.le_of_ble_eq_true rfl⟩ (x_recv hK hH (id := [20]) (by first | trivial | (simp only [xD]; omega) | (simp [xD]; done) | (simp [xD]; omega)) (ci := 7) rfl (by decide) rfl) hH rfl rfl (Nat.le_of_ble_eq_true rfl) dX7_doneShare_2 (fun H locs hH hS => ?_)
  obtain ⟨I1_, hI1_⟩ : ∃ z, z = up I [20] 23 0 := ⟨_, rfl⟩
  rw [mW_u20 _ _ _ _ (by decide), ← hI1_] at hH
  have hsm : ∀ id, pK id = true → I1_ id = I id := by rw [hI1_]; exact pK_20 I 23 _
  have hpo1 : I1_ [24, 11] c = nI p := by rw [hI1_]; exact hpo
  have hA1 := hA.same hsm
  have hW1 := hW.same hsm
  have e1 := vP_same hsm p
  have e2 := vC_same hsm p
  refine lv_if_eq (tgt := 12) hx hb dX7_doneShare_5 (by decide) (fun _ => ?_) (fun q_ => absurd (by decide) q_)
  refine lv_aload_n hx hb dX7_doneShare_12 rfl (lv_at hl 0 rfl) ?_
  refine lv_iload_n hx hb dX7_doneShare_13 rfl (lv_at hl 1 rfl) ?_
  refine lv_bipush (v := 99) hx hb dX7_doneShare_14 (by decide) ?_
  refine x_V1 hx hb hml hown hE hS hl.1 cyX7_inState tw1102 (c_X7_inState l g h I1_ n c X hc4 p hpp hpo1 hA1 hW1 99) ⟨Nat.le_of_ble_eq_true rfl, Nat.le_of_ble_eq_true rfl⟩ ⟨Nat.le_of_ble_eq_true rfl, Nat.le_of_ble_eq_true rfl⟩ (x_recv hK hH (id := [20]) (by first | trivial | (simp only [xD]; omega) | (simp [xD]; done) | (simp [xD]; omega)) (ci := 7) rfl (by decide) rfl) hH rfl rfl (Nat.le_of_ble_eq_true rfl) dX7_doneShare_16 (fun H locs hH hS => ?_)
  refine lv_i2f hx hb dX7_doneShare_19 ?_
  refine lv_aload_n hx hb dX7_doneShare_20 rfl (lv_at hl 0 rfl) ?_
  refine x_get (C := RX7) (T := TX7) (N := 24) (ci := 7) hx hb hts iu7 hown hK hH (id := [20]) (by first | trivial | (simp only [xD]; omega) | (simp [xD]; done) | (simp [xD]; omega)) rfl rfl (by decide) 8 (by decide) (hts _ tw847) (fun _ h9 => h9) rfl (v := .ref (ga g [24, 8])) rfl dX7_doneShare_21 ?_
  refine lv_aload_n hx hb dX7_doneShare_24 rfl (lv_at hl 0 rfl) ?_
  refine x_get (C := RX7) (T := TX7) (N := 24) (ci := 7) hx hb hts iu7 hown hK hH (id := [20]) (by first | trivial | (simp only [xD]; omega) | (simp [xD]; done) | (simp [xD]; omega)) rfl rfl (by decide) 11 (by decide) (hts _ tw850) (fun _ h9 => h9) rfl (v := .ref (ga g [24, 11])) rfl dX7_doneShare_25 ?_
  refine lv_iload_n hx hb dX7_doneShare_28 rfl (lv_at hl 1 rfl) ?_
  refine x_iald hx hb hK hH (id := [24, 11]) (by first | trivial | (simp only [xD]; omega) | (simp [xD]; done) | (simp [xD]; omega)) (L := 4) rfl (r := (I1_ [24, 11])) rfl c rfl (by omega) (by decide) dX7_doneShare_29 ?_
  rw [show (I1_ [24, 11] c) = (nI p) from hpo1]
  refine x_iald hx hb hK hH (id := [24, 8]) (by first | trivial | (simp only [xD]; omega) | (simp [xD]; done) | (simp [xD]; omega)) (L := 3) rfl (r := (I1_ [24, 8])) rfl p rfl (by omega) (by decide) dX7_doneShare_30 ?_
  rw [show (I1_ [24, 8] p) = (nI (sSz h p)) from hA1.1]
  refine lv_i2f hx hb dX7_doneShare_31 ?_
  refine lv_fdiv hx hb dX7_doneShare_32 (sShr_n (sCnt_le _ _ _) h8 hz0) ?_
  exact x_fret hx hb hr hlocks hS dX7_doneShare_33 rfl (by rw [hI1_] at hH; exact hH)

set_option maxHeartbeats 1000000 in
set_option maxRecDepth 100000 in
theorem c_X7_isLate (l : Launch) (g : xG) (h : xS) (I : xI) (n : Nat) (c : Nat) (X : xX) (m : Nat) (hm4 : m ≤ 4) (hm : I [20] 20 = nI m) (hc : c < m) (p : Nat) (hpp : p < 3) (hpo : I [24, 11] c = nI p) (hA : mA h I p) (hW : xWp h I p) (q : Nat) (hq : q ≤ 3) (hz : I [20] 10 = nI q) (hp : p < q) (j : Nat) (hj : j < sSz h p)  : xM l yX7_isLate (xws yX7_isLate cX7_isLate 3 (some FieldType.boolean)) 6 121 g [.ref (ga g [20]), .int (nI c), .int (nI j)] (xR g (xD h) (mW I c X) (xFh h) n) (some (.int (b01 (mLt (vP I p) X j)))) (xR g (xD h) (mW (up I [20] 23 0) c X) (xFh h) n) 0 0 := by
  refine xM.of (by decide) (Nat.le_of_ble_eq_true rfl) ?_
  intro P_ e_ s m_ bl_ mt_ cd_ ls hx hb hr hown hlocks hml hnm hE hK hts hH hS hl
  have hl : lv_has ls 3 [(0, .ref (ga g [20])), (1, .int (nI c)), (2, .int (nI j))] := hl
  have h8 := hW.1
  have hc4 : c < 4 := by omega
  refine lv_aload_n hx hb dX7_isLate_0 rfl (lv_at hl 0 rfl) ?_
  refine lv_iload_n hx hb dX7_isLate_1 rfl (lv_at hl 1 rfl) ?_
  refine lv_iload_n hx hb dX7_isLate_2 rfl (lv_at hl 2 rfl) ?_
  refine x_V1 hx hb hml hown hE hS hl.1 cyX7_lacks tw1060 (c_X7_lacks_0 l g h (mW I c X) n q hq (by rw [mW_20 _ _ _ (by decide)]; exact hz) p hp (sSz h p) h8 hA.1 m hm4 (by rw [mW_20 _ _ _ (by decide)]; exact hm) c hc hpo j hj) ⟨Nat.le_of_ble_eq_true rfl, Nat.le_of_ble_eq_true rfl⟩ ⟨Nat.le_of_ble_eq_true rfl, Nat.le_of_ble_eq_true rfl⟩ (x_recv hK hH (id := [20]) (by first | trivial | (simp only [xD]; omega) | (simp [xD]; done) | (simp [xD]; omega)) (ci := 7) rfl (by decide) rfl) hH rfl rfl (Nat.le_of_ble_eq_true rfl) dX7_isLate_3 (fun H locs hH hS => ?_)
  obtain ⟨I1_, hI1_⟩ : ∃ z, z = up I [20] 23 0 := ⟨_, rfl⟩
  rw [mW_u20 _ _ _ _ (by decide), ← hI1_] at hH
  have hsm : ∀ id, pK id = true → I1_ id = I id := by rw [hI1_]; exact pK_20 I 23 _
  have hpo1 : I1_ [24, 11] c = nI p := by rw [hI1_]; exact hpo
  have hA1 := hA.same hsm
  have hW1 := hW.same hsm
  have e1 := vP_same hsm p
  have e2 := vC_same hsm p
  refine lv_if_ne (tgt := 22) hx hb dX7_isLate_6 (by decide) (fun q_ => absurd (by decide) q_) (fun _ => ?_)
  refine lv_aload_n hx hb dX7_isLate_9 rfl (lv_at hl 0 rfl) ?_
  refine lv_iload_n hx hb dX7_isLate_10 rfl (lv_at hl 1 rfl) ?_
  refine lv_iload_n hx hb dX7_isLate_11 rfl (lv_at hl 2 rfl) ?_
  refine x_V1 hx hb hml hown hE hS hl.1 cyX7_isLateNow tw1052 (c_X7_isLateNow l g h I1_ n c X hc4 p hpp hpo1 hA1 hW1 j hj) ⟨Nat.le_of_ble_eq_true rfl, Nat.le_of_ble_eq_true rfl⟩ ⟨Nat.le_of_ble_eq_true rfl, Nat.le_of_ble_eq_true rfl⟩ (x_recv hK hH (id := [20]) (by first | trivial | (simp only [xD]; omega) | (simp [xD]; done) | (simp [xD]; omega)) (ci := 7) rfl (by decide) rfl) hH rfl rfl (Nat.le_of_ble_eq_true rfl) dX7_isLate_12 (fun H locs hH hS => ?_)
  rw [e1]
  refine lv_if_eq (tgt := 22) hx hb dX7_isLate_15 (by decide) (fun c_15 => ?_) (fun c_15 => ?_)
  · skip
    refine lv_iconst (v := 0) hx hb dX7_isLate_22 (by decide) ?_
    exact x_zret hx hb hr hlocks hS dX7_isLate_23 rfl (b01_f ((b01_eq0 _).mp c_15)) (by rw [hI1_] at hH; exact hH)
  · skip
    refine lv_iconst (v := 1) hx hb dX7_isLate_18 (by decide) ?_
    refine lv_goto (tgt := 23) hx hb dX7_isLate_19 (by decide) ?_
    exact x_zret hx hb hr hlocks hS dX7_isLate_23 rfl (b01_t (b01_ne0 c_15)) (by rw [hI1_] at hH; exact hH)

theorem up_up {α : Type} (f : List Nat → Nat → α) (i : List Nat) (k : Nat) (v t : α) : up (up f i k v) i k t = up f i k t := by
  funext j q; unfold up; split <;> rfl
set_option maxHeartbeats 1000000 in
set_option maxRecDepth 100000 in
theorem c_X7_isOver (l : Launch) (g : xG) (h : xS) (I : xI) (n : Nat) (c : Nat) (X : xX) (m : Nat) (hm4 : m ≤ 4) (hm : I [20] 20 = nI m) (hc : c < m) (p : Nat) (hpp : p < 3) (hpo : I [24, 11] c = nI p) (hA : mA h I p) (hW : xWp h I p)  : xM l yX7_isOver (xws yX7_isOver cX7_isOver 4 (some FieldType.boolean)) 4 76 g [.ref (ga g [20]), .int (nI c)] (xR g (xD h) (mW I c X) (xFh h) n) (some (.int (b01 (sOvr (vP I p) X (sSz h p))))) (xR g (xD h) (mW (up I [20] 23 0) c X) (xFh h) n) 0 0 := by
  refine xM.of (by decide) (Nat.le_of_ble_eq_true rfl) ?_
  intro P_ e_ s m_ bl_ mt_ cd_ ls hx hb hr hown hlocks hml hnm hE hK hts hH hS hl
  have hl : lv_has ls 4 [(0, .ref (ga g [20])), (1, .int (nI c))] := hl
  have h8 := hW.1
  have hc4 : c < 4 := by omega
  refine lv_aload_n hx hb dX7_isOver_0 rfl (lv_at hl 0 rfl) ?_
  refine lv_iload_n hx hb dX7_isOver_1 rfl (lv_at hl 1 rfl) ?_
  refine x_V1 hx hb hml hown hE hS hl.1 cyX7_misses tw1090 (c_X7_misses_0 l g h (mW I c X) n m hm4 (by rw [mW_20 _ _ _ (by decide)]; exact hm) c hc) ⟨Nat.le_of_ble_eq_true rfl, Nat.le_of_ble_eq_true rfl⟩ ⟨Nat.le_of_ble_eq_true rfl, Nat.le_of_ble_eq_true rfl⟩ (x_recv hK hH (id := [20]) (by first | trivial | (simp only [xD]; omega) | (simp [xD]; done) | (simp [xD]; omega)) (ci := 7) rfl (by decide) rfl) hH rfl rfl (Nat.le_of_ble_eq_true rfl) dX7_isOver_2 (fun H locs hH hS => ?_)
  obtain ⟨I1_, hI1_⟩ : ∃ z, z = up I [20] 23 0 := ⟨_, rfl⟩
  rw [mW_u20 _ _ _ _ (by decide), ← hI1_] at hH
  have hsm : ∀ id, pK id = true → I1_ id = I id := by rw [hI1_]; exact pK_20 I 23 _
  have hpo1 : I1_ [24, 11] c = nI p := by rw [hI1_]; exact hpo
  have hA1 := hA.same hsm
  have hW1 := hW.same hsm
  have e1 := vP_same hsm p
  have e2 := vC_same hsm p
  refine lv_if_eq (tgt := 10) hx hb dX7_isOver_5 (by decide) (fun _ => ?_) (fun q_ => absurd (by decide) q_)
  refine lv_iconst (v := 1) hx hb dX7_isOver_10 (by decide) ?_
  refine lv_istore_n (lv' := [(2, .int 1), (0, .ref (ga g [20])), (1, .int (nI c))]) hx hb dX7_isOver_11 rfl hl (by decide) rfl (fun ls hl => ?_)
  refine lv_iconst (v := 0) hx hb dX7_isOver_12 (by decide) ?_
  refine lv_istore_n (lv' := [(3, .int 0), (2, .int 1), (0, .ref (ga g [20])), (1, .int (nI c))]) hx hb dX7_isOver_13 rfl hl (by decide) rfl (fun ls hl => ?_)
  have L14 : ∀ (fu : Nat) (i : Nat) (b : Int32) (H : Heap) (locs : List Loc) (ls : Array Slot), (i ≤ sSz h p) → (b = b01 (sOvr (vP I p) X i)) → sSz h p - i < fu → xR g (xD h) (mW I1_ c X) (xFh h) n H → va_S (gA g) s.heap H locs → lv_has ls 4 [(0, .ref (ga g [20])), (1, .int (nI c)), (2, .int b), (3, .int (nI i))] → W P_ l e_ { frames := 4, cells := 0, slots := 0, locals := 76 } s m_ ([.ref (ga g [20]), .int (nI c)] : List Value).toArray bl_ mt_ cd_ H locs 0 0 (MQ bl_ (xQc g (some (.int (b01 (sOvr (vP I p) X (sSz h p))))) (xR g (xD h) (mW (up I [20] 23 0) c X) (xFh h) n)) ([.ref (ga g [20]), .int (nI c)] : List Value).toArray s 0 0 (gA g)) (F0 m_ 14 ls []) := by
    intro fu
    induction fu with
    | zero => intro i b H locs ls hi hbb hfu; exact absurd hfu (Nat.not_lt_zero _)
    | succ fu ih14 =>
      intro i b H locs ls hi hbb hfu hH hS hl
      refine lv_iload_n hx hb dX7_isOver_14 rfl (lv_at hl 3 rfl) ?_
      refine lv_aload_n hx hb dX7_isOver_15 rfl (lv_at hl 0 rfl) ?_
      refine x_get (C := RX7) (T := TX7) (N := 24) (ci := 7) hx hb hts iu7 hown hK hH (id := [20]) (by first | trivial | (simp only [xD]; omega) | (simp [xD]; done) | (simp [xD]; omega)) rfl rfl (by decide) 8 (by decide) (hts _ tw847) (fun _ h9 => h9) rfl (v := .ref (ga g [24, 8])) rfl dX7_isOver_16 ?_
      refine lv_aload_n hx hb dX7_isOver_19 rfl (lv_at hl 0 rfl) ?_
      refine x_get (C := RX7) (T := TX7) (N := 24) (ci := 7) hx hb hts iu7 hown hK hH (id := [20]) (by first | trivial | (simp only [xD]; omega) | (simp [xD]; done) | (simp [xD]; omega)) rfl rfl (by decide) 11 (by decide) (hts _ tw850) (fun _ h9 => h9) rfl (v := .ref (ga g [24, 11])) rfl dX7_isOver_20 ?_
      refine lv_iload_n hx hb dX7_isOver_23 rfl (lv_at hl 1 rfl) ?_
      refine x_iald hx hb hK hH (id := [24, 11]) (by first | trivial | (simp only [xD]; omega) | (simp [xD]; done) | (simp [xD]; omega)) (L := 4) rfl (r := (I1_ [24, 11])) rfl c rfl (by omega) (by decide) dX7_isOver_24 ?_
      rw [show (I1_ [24, 11] c) = (nI p) from hpo1]
      refine x_iald hx hb hK hH (id := [24, 8]) (by first | trivial | (simp only [xD]; omega) | (simp [xD]; done) | (simp [xD]; omega)) (L := 3) rfl (r := (I1_ [24, 8])) rfl p rfl (by omega) (by decide) dX7_isOver_25 ?_
      rw [show (I1_ [24, 8] p) = (nI (sSz h p)) from hA1.1]
      refine lv_icmp_ge (tgt := 88) hx hb dX7_isOver_26 (by decide) (fun c_26 => ?_) (fun c_26 => ?_)
      · skip
        have c_26 := (nI_leI (a := (sSz h p)) (b := i) (by omega) (by omega)).mp c_26
        refine lv_iload_n hx hb dX7_isOver_88 rfl (lv_at hl 2 rfl) ?_
        exact x_zret hx hb hr hlocks hS dX7_isOver_89 (by rw [hbb]; exact b01_nar _) (by rw [hbb, show i = sSz h p by omega]) (by rw [hI1_] at hH; exact hH)
      · skip
        have c_26 : ¬ _ := fun z_ => c_26 ((nI_leI (a := (sSz h p)) (b := i) (by omega) (by omega)).mpr z_)
        refine lv_iload_n hx hb dX7_isOver_29 rfl (lv_at hl 2 rfl) ?_
        refine lv_if_eq (tgt := 80) hx hb dX7_isOver_30 (by decide) (fun c_30 => ?_) (fun c_30 => ?_)
        · skip
          refine lv_iconst (v := 0) hx hb dX7_isOver_80 (by decide) ?_
          refine lv_istore_n (lv' := [(2, .int 0), (0, .ref (ga g [20])), (1, .int (nI c)), (3, .int (nI i))]) hx hb dX7_isOver_81 rfl hl (by decide) rfl (fun ls hl => ?_)
          refine lv_iinc (v := (nI (i + 1))) (lv' := [(3, .int (nI (i + 1))), (2, .int 0), (0, .ref (ga g [20])), (1, .int (nI c))]) hx hb dX7_isOver_82 hl (k := 3) rfl (by first | rfl | exact nI_1 _ | exact nI_add _ _) (by decide) rfl (fun ls hl => ?_)
          refine lv_goto (tgt := 14) hx hb dX7_isOver_85 (by decide) ?_
          exact ih14 (i + 1) 0 _ _ _ (by omega) (b01_f (by show (_ && (_ || _ || _)) = false; rw [show (sOvr (vP I p) X i) = false from (b01_eq0 _).mp (hbb ▸ c_30)]; rfl)) (by omega) hH hS (lv_sub hl [2, 3, 1, 0] rfl)
        · skip
          refine lv_aload_n hx hb dX7_isOver_33 rfl (lv_at hl 0 rfl) ?_
          refine x_get (C := RX7) (T := TX7) (N := 24) (ci := 7) hx hb hts iu7 hown hK hH (id := [20]) (by first | trivial | (simp only [xD]; omega) | (simp [xD]; done) | (simp [xD]; omega)) rfl rfl (by decide) 1 (by decide) (hts _ tw840) (fun _ h9 => h9) rfl (v := .ref (ga g [21, 1])) rfl dX7_isOver_34 ?_
          refine lv_aload_n hx hb dX7_isOver_37 rfl (lv_at hl 0 rfl) ?_
          refine x_get (C := RX7) (T := TX7) (N := 24) (ci := 7) hx hb hts iu7 hown hK hH (id := [20]) (by first | trivial | (simp only [xD]; omega) | (simp [xD]; done) | (simp [xD]; omega)) rfl rfl (by decide) 11 (by decide) (hts _ tw850) (fun _ h9 => h9) rfl (v := .ref (ga g [24, 11])) rfl dX7_isOver_38 ?_
          refine lv_iload_n hx hb dX7_isOver_41 rfl (lv_at hl 1 rfl) ?_
          refine x_iald hx hb hK hH (id := [24, 11]) (by first | trivial | (simp only [xD]; omega) | (simp [xD]; done) | (simp [xD]; omega)) (L := 4) rfl (r := (I1_ [24, 11])) rfl c rfl (by omega) (by decide) dX7_isOver_42 ?_
          rw [show (I1_ [24, 11] c) = (nI p) from hpo1]
          refine x_aald hx hb hK hH (id := [21, 1]) (by first | trivial | (simp only [xD]; omega) | (simp [xD]; done) | (simp [xD]; omega)) 7 (L := 3) rfl (by decide) p rfl (by omega) (by decide) (v := .ref (ga g [22, 1, p])) (by show rq _ (if _ then _ else _) = _; rw [if_pos (show p < xLn 1 by show _ < 3; omega)]; rfl) dX7_isOver_43 ?_
          refine lv_iload_n hx hb dX7_isOver_44 rfl (lv_at hl 3 rfl) ?_
          refine x_iald hx hb hK hH (id := [22, 1, p]) (by first | trivial | (simp only [xD]; omega) | (simp [xD]; done) | (simp [xD]; omega)) (L := 8) rfl (r := (I1_ [22, 1, p])) rfl i rfl (by omega) (by decide) dX7_isOver_45 ?_
          rw [show (I1_ [22, 1, p] i) = (I [7, p, i] 1) from ((hA1.2 i (by omega)).2.1.trans (congrFun (congrFun e1 i) 1))]
          refine lv_iconst (v := (-1)) hx hb dX7_isOver_46 (by decide) ?_
          refine lv_icmp_ne (tgt := 76) hx hb dX7_isOver_47 (by decide) (fun c_47 => ?_) (fun c_47 => ?_)
          · skip
            refine lv_iconst (v := 1) hx hb dX7_isOver_76 (by decide) ?_
            refine lv_goto (tgt := 81) hx hb dX7_isOver_77 (by decide) ?_
            refine lv_istore_n (lv' := [(2, .int 1), (0, .ref (ga g [20])), (1, .int (nI c)), (3, .int (nI i))]) hx hb dX7_isOver_81 rfl hl (by decide) rfl (fun ls hl => ?_)
            refine lv_iinc (v := (nI (i + 1))) (lv' := [(3, .int (nI (i + 1))), (2, .int 1), (0, .ref (ga g [20])), (1, .int (nI c))]) hx hb dX7_isOver_82 hl (k := 3) rfl (by first | rfl | exact nI_1 _ | exact nI_add _ _) (by decide) rfl (fun ls hl => ?_)
            refine lv_goto (tgt := 14) hx hb dX7_isOver_85 (by decide) ?_
            exact ih14 (i + 1) 1 _ _ _ (by omega) (b01_t (by show (_ && (_ || _ || _)) = true; rw [show (sOvr (vP I p) X i) = true from b01_ne0 (hbb ▸ c_30), show decide (vP I p i 1 ≠ -1) = true from decide_eq_true c_47]; rfl)) (by omega) hH hS (lv_sub hl [2, 3, 1, 0] rfl)
          · skip
            refine lv_aload_n hx hb dX7_isOver_50 rfl (lv_at hl 0 rfl) ?_
            refine x_get (C := RX7) (T := TX7) (N := 24) (ci := 7) hx hb hts iu7 hown hK hH (id := [20]) (by first | trivial | (simp only [xD]; omega) | (simp [xD]; done) | (simp [xD]; omega)) rfl rfl (by decide) 14 (by decide) (hts _ tw853) (fun _ h9 => h9) rfl (v := .ref (ga g [21, 14])) rfl dX7_isOver_51 ?_
            refine lv_iload_n hx hb dX7_isOver_54 rfl (lv_at hl 1 rfl) ?_
            refine x_aald hx hb hK hH (id := [21, 14]) (by first | trivial | (simp only [xD]; omega) | (simp [xD]; done) | (simp [xD]; omega)) 8 (L := 4) rfl (by decide) c rfl (by omega) (by decide) (v := .ref (ga g [22, 14, c])) (by show rq _ (if _ then _ else _) = _; rw [if_pos (show c < xLn 14 by show _ < 4; omega)]; rfl) dX7_isOver_55 ?_
            refine lv_iload_n hx hb dX7_isOver_56 rfl (lv_at hl 3 rfl) ?_
            refine x_cald hx hb hK hH (id := [22, 14, c]) (by first | trivial | (simp only [xD]; omega) | (simp [xD]; done) | (simp [xD]; omega)) (L := 8) rfl (r := (X 2)) (mW_r2 _ _ _) i rfl (by omega) (by decide) dX7_isOver_57 ?_
            refine lv_bipush (v := 99) hx hb dX7_isOver_58 (by decide) ?_
            refine lv_icmp_eq (tgt := 76) hx hb dX7_isOver_60 (by decide) (fun c_60 => ?_) (fun c_60 => ?_)
            · skip
              refine lv_iconst (v := 1) hx hb dX7_isOver_76 (by decide) ?_
              refine lv_goto (tgt := 81) hx hb dX7_isOver_77 (by decide) ?_
              refine lv_istore_n (lv' := [(2, .int 1), (0, .ref (ga g [20])), (1, .int (nI c)), (3, .int (nI i))]) hx hb dX7_isOver_81 rfl hl (by decide) rfl (fun ls hl => ?_)
              refine lv_iinc (v := (nI (i + 1))) (lv' := [(3, .int (nI (i + 1))), (2, .int 1), (0, .ref (ga g [20])), (1, .int (nI c))]) hx hb dX7_isOver_82 hl (k := 3) rfl (by first | rfl | exact nI_1 _ | exact nI_add _ _) (by decide) rfl (fun ls hl => ?_)
              refine lv_goto (tgt := 14) hx hb dX7_isOver_85 (by decide) ?_
              exact ih14 (i + 1) 1 _ _ _ (by omega) (b01_t (by show (_ && (_ || _ || _)) = true; rw [show (sOvr (vP I p) X i) = true from b01_ne0 (hbb ▸ c_30), decide_eq_true c_60, Bool.or_true]; rfl)) (by omega) hH hS (lv_sub hl [2, 3, 1, 0] rfl)
            · skip
              refine lv_aload_n hx hb dX7_isOver_63 rfl (lv_at hl 0 rfl) ?_
              refine x_get (C := RX7) (T := TX7) (N := 24) (ci := 7) hx hb hts iu7 hown hK hH (id := [20]) (by first | trivial | (simp only [xD]; omega) | (simp [xD]; done) | (simp [xD]; omega)) rfl rfl (by decide) 14 (by decide) (hts _ tw853) (fun _ h9 => h9) rfl (v := .ref (ga g [21, 14])) rfl dX7_isOver_64 ?_
              refine lv_iload_n hx hb dX7_isOver_67 rfl (lv_at hl 1 rfl) ?_
              refine x_aald hx hb hK hH (id := [21, 14]) (by first | trivial | (simp only [xD]; omega) | (simp [xD]; done) | (simp [xD]; omega)) 8 (L := 4) rfl (by decide) c rfl (by omega) (by decide) (v := .ref (ga g [22, 14, c])) (by show rq _ (if _ then _ else _) = _; rw [if_pos (show c < xLn 14 by show _ < 4; omega)]; rfl) dX7_isOver_68 ?_
              refine lv_iload_n hx hb dX7_isOver_69 rfl (lv_at hl 3 rfl) ?_
              refine x_cald hx hb hK hH (id := [22, 14, c]) (by first | trivial | (simp only [xD]; omega) | (simp [xD]; done) | (simp [xD]; omega)) (L := 8) rfl (r := (X 2)) (mW_r2 _ _ _) i rfl (by omega) (by decide) dX7_isOver_70 ?_
              refine lv_bipush (v := 120) hx hb dX7_isOver_71 (by decide) ?_
              refine lv_icmp_ne (tgt := 80) hx hb dX7_isOver_73 (by decide) (fun c_73 => ?_) (fun c_73 => ?_)
              · skip
                refine lv_iconst (v := 0) hx hb dX7_isOver_80 (by decide) ?_
                refine lv_istore_n (lv' := [(2, .int 0), (0, .ref (ga g [20])), (1, .int (nI c)), (3, .int (nI i))]) hx hb dX7_isOver_81 rfl hl (by decide) rfl (fun ls hl => ?_)
                refine lv_iinc (v := (nI (i + 1))) (lv' := [(3, .int (nI (i + 1))), (2, .int 0), (0, .ref (ga g [20])), (1, .int (nI c))]) hx hb dX7_isOver_82 hl (k := 3) rfl (by first | rfl | exact nI_1 _ | exact nI_add _ _) (by decide) rfl (fun ls hl => ?_)
                refine lv_goto (tgt := 14) hx hb dX7_isOver_85 (by decide) ?_
                exact ih14 (i + 1) 0 _ _ _ (by omega) (b01_f (by show (_ && (_ || _ || _)) = false; rw [show decide (vP I p i 1 ≠ -1) = false from decide_eq_false (fun z => z c_47), decide_eq_false c_60, decide_eq_false c_73]; exact Bool.and_false _)) (by omega) hH hS (lv_sub hl [2, 3, 1, 0] rfl)
              · skip
                refine lv_iconst (v := 1) hx hb dX7_isOver_76 (by decide) ?_
                refine lv_goto (tgt := 81) hx hb dX7_isOver_77 (by decide) ?_
                refine lv_istore_n (lv' := [(2, .int 1), (0, .ref (ga g [20])), (1, .int (nI c)), (3, .int (nI i))]) hx hb dX7_isOver_81 rfl hl (by decide) rfl (fun ls hl => ?_)
                refine lv_iinc (v := (nI (i + 1))) (lv' := [(3, .int (nI (i + 1))), (2, .int 1), (0, .ref (ga g [20])), (1, .int (nI c))]) hx hb dX7_isOver_82 hl (k := 3) rfl (by first | rfl | exact nI_1 _ | exact nI_add _ _) (by decide) rfl (fun ls hl => ?_)
                refine lv_goto (tgt := 14) hx hb dX7_isOver_85 (by decide) ?_
                exact ih14 (i + 1) 1 _ _ _ (by omega) (b01_t (by show (_ && (_ || _ || _)) = true; rw [show (sOvr (vP I p) X i) = true from b01_ne0 (hbb ▸ c_30), decide_eq_true c_73, Bool.or_true]; rfl)) (by omega) hH hS (lv_sub hl [2, 3, 1, 0] rfl)
  exact L14 _ 0 1 _ _ _ (Nat.zero_le _) rfl (Nat.lt_succ_self _) hH hS (lv_sub hl [2, 3, 1, 0] rfl)

set_option maxHeartbeats 1000000 in
set_option maxRecDepth 100000 in
theorem c_X7_daysLeft (l : Launch) (g : xG) (h : xS) (I : xI) (n : Nat) (c : Nat) (X : xX) (m : Nat) (hm4 : m ≤ 4) (hm : I [20] 20 = nI m) (hc : c < m) (p : Nat) (hpp : p < 3) (hpo : I [24, 11] c = nI p) (hA : mA h I p) (hW : xWp h I p) (hf : ¬ (sFew (vP I p) X (sSz h p)) = -1)  : xM l yX7_daysLeft (xws yX7_daysLeft cX7_daysLeft 7 (some FieldType.int)) 4 76 g [.ref (ga g [20]), .int (nI c)] (xR g (xD h) (mW I c X) (xFh h) n) (some (.int (sFew (vP I p) X (sSz h p)))) (xR g (xD h) (mW (up I [20] 23 0) c X) (xFh h) n) 0 0 := by
  refine xM.of (by decide) (Nat.le_of_ble_eq_true rfl) ?_
  intro P_ e_ s m_ bl_ mt_ cd_ ls hx hb hr hown hlocks hml hnm hE hK hts hH hS hl
  have hl : lv_has ls 7 [(0, .ref (ga g [20])), (1, .int (nI c))] := hl
  have h8 := hW.1
  have hc4 : c < 4 := by omega
  refine lv_aload_n hx hb dX7_daysLeft_0 rfl (lv_at hl 0 rfl) ?_
  refine lv_iload_n hx hb dX7_daysLeft_1 rfl (lv_at hl 1 rfl) ?_
  refine x_V1 hx hb hml hown hE hS hl.1 cyX7_misses tw1090 (c_X7_misses_0 l g h (mW I c X) n m hm4 (by rw [mW_20 _ _ _ (by decide)]; exact hm) c hc) ⟨Nat.le_of_ble_eq_true rfl, Nat.le_of_ble_eq_true rfl⟩ ⟨Nat.le_of_ble_eq_true rfl, Nat.le_of_ble_eq_true rfl⟩ (x_recv hK hH (id := [20]) (by first | trivial | (simp only [xD]; omega) | (simp [xD]; done) | (simp [xD]; omega)) (ci := 7) rfl (by decide) rfl) hH rfl rfl (Nat.le_of_ble_eq_true rfl) dX7_daysLeft_2 (fun H locs hH hS => ?_)
  obtain ⟨I1_, hI1_⟩ : ∃ z, z = up I [20] 23 0 := ⟨_, rfl⟩
  rw [mW_u20 _ _ _ _ (by decide), ← hI1_] at hH
  have hsm : ∀ id, pK id = true → I1_ id = I id := by rw [hI1_]; exact pK_20 I 23 _
  have hpo1 : I1_ [24, 11] c = nI p := by rw [hI1_]; exact hpo
  have hA1 := hA.same hsm
  have hW1 := hW.same hsm
  have e1 := vP_same hsm p
  have e2 := vC_same hsm p
  refine lv_if_eq (tgt := 10) hx hb dX7_daysLeft_5 (by decide) (fun _ => ?_) (fun q_ => absurd (by decide) q_)
  refine lv_aload_n hx hb dX7_daysLeft_10 rfl (lv_at hl 0 rfl) ?_
  refine x_get (C := RX7) (T := TX7) (N := 24) (ci := 7) hx hb hts iu7 hown hK hH (id := [20]) (by first | trivial | (simp only [xD]; omega) | (simp [xD]; done) | (simp [xD]; omega)) rfl rfl (by decide) 11 (by decide) (hts _ tw850) (fun _ h9 => h9) rfl (v := .ref (ga g [24, 11])) rfl dX7_daysLeft_11 ?_
  refine lv_iload_n hx hb dX7_daysLeft_14 rfl (lv_at hl 1 rfl) ?_
  refine x_iald hx hb hK hH (id := [24, 11]) (by first | trivial | (simp only [xD]; omega) | (simp [xD]; done) | (simp [xD]; omega)) (L := 4) rfl (r := (I1_ [24, 11])) rfl c rfl (by omega) (by decide) dX7_daysLeft_15 ?_
  rw [show (I1_ [24, 11] c) = (nI p) from hpo1]
  refine lv_istore_n (lv' := [(2, .int (nI p)), (0, .ref (ga g [20])), (1, .int (nI c))]) hx hb dX7_daysLeft_16 rfl hl (by decide) rfl (fun ls hl => ?_)
  refine lv_iconst (v := (-1)) hx hb dX7_daysLeft_17 (by decide) ?_
  refine lv_istore_n (lv' := [(3, .int (-1)), (2, .int (nI p)), (0, .ref (ga g [20])), (1, .int (nI c))]) hx hb dX7_daysLeft_18 rfl hl (by decide) rfl (fun ls hl => ?_)
  refine lv_iconst (v := 0) hx hb dX7_daysLeft_19 (by decide) ?_
  refine lv_istore (lv' := [(4, .int 0), (3, .int (-1)), (2, .int (nI p)), (0, .ref (ga g [20])), (1, .int (nI c))]) hx hb dX7_daysLeft_20 hl (by decide) rfl (fun ls hl => ?_)
  have L22 : ∀ (fu : Nat) (i : Nat) (b : Int32) (H : Heap) (locs : List Loc) (ls : Array Slot), (i ≤ sSz h p) → (b = (sFew (vP I p) X i)) → sSz h p - i < fu → xR g (xD h) (mW I1_ c X) (xFh h) n H → va_S (gA g) s.heap H locs → lv_has ls 7 [(0, .ref (ga g [20])), (1, .int (nI c)), (2, .int (nI p)), (3, .int b), (4, .int (nI i))] → W P_ l e_ { frames := 4, cells := 0, slots := 0, locals := 76 } s m_ ([.ref (ga g [20]), .int (nI c)] : List Value).toArray bl_ mt_ cd_ H locs 0 0 (MQ bl_ (xQc g (some (.int (sFew (vP I p) X (sSz h p)))) (xR g (xD h) (mW (up I [20] 23 0) c X) (xFh h) n)) ([.ref (ga g [20]), .int (nI c)] : List Value).toArray s 0 0 (gA g)) (F0 m_ 22 ls []) := by
    intro fu
    induction fu with
    | zero => intro i b H locs ls hi hbb hfu; exact absurd hfu (Nat.not_lt_zero _)
    | succ fu ih22 =>
      intro i b H locs ls hi hbb hfu hH hS hl
      refine lv_iload hx hb dX7_daysLeft_22 (lv_at hl 4 rfl) ?_
      refine lv_aload_n hx hb dX7_daysLeft_24 rfl (lv_at hl 0 rfl) ?_
      refine x_get (C := RX7) (T := TX7) (N := 24) (ci := 7) hx hb hts iu7 hown hK hH (id := [20]) (by first | trivial | (simp only [xD]; omega) | (simp [xD]; done) | (simp [xD]; omega)) rfl rfl (by decide) 8 (by decide) (hts _ tw847) (fun _ h9 => h9) rfl (v := .ref (ga g [24, 8])) rfl dX7_daysLeft_25 ?_
      refine lv_iload_n hx hb dX7_daysLeft_28 rfl (lv_at hl 2 rfl) ?_
      refine x_iald hx hb hK hH (id := [24, 8]) (by first | trivial | (simp only [xD]; omega) | (simp [xD]; done) | (simp [xD]; omega)) (L := 3) rfl (r := (I1_ [24, 8])) rfl p rfl (by omega) (by decide) dX7_daysLeft_29 ?_
      rw [show (I1_ [24, 8] p) = (nI (sSz h p)) from hA1.1]
      refine lv_icmp_ge (tgt := 125) hx hb dX7_daysLeft_30 (by decide) (fun c_30 => ?_) (fun c_30 => ?_)
      · skip
        have c_30 := (nI_leI (a := (sSz h p)) (b := i) (by omega) (by omega)).mp c_30
        refine lv_iload_n hx hb dX7_daysLeft_125 rfl (lv_at hl 3 rfl) ?_
        refine lv_iconst (v := (-1)) hx hb dX7_daysLeft_126 (by decide) ?_
        refine lv_icmp_ne (tgt := 138) hx hb dX7_daysLeft_127 (by decide) (fun _ => ?_) (fun q_ => absurd q_ (fun z_ => hf (by rw [show sSz h p = i by omega, ← hbb]; exact z_)))
        refine lv_iload_n hx hb dX7_daysLeft_138 rfl (lv_at hl 3 rfl) ?_
        exact x_iret hx hb hr hlocks hS dX7_daysLeft_139 (by rw [hbb, show i = sSz h p by omega]) (by rw [hI1_] at hH; exact hH)
      · skip
        have c_30 : ¬ _ := fun z_ => c_30 ((nI_leI (a := (sSz h p)) (b := i) (by omega) (by omega)).mpr z_)
        refine lv_aload_n hx hb dX7_daysLeft_33 rfl (lv_at hl 0 rfl) ?_
        refine x_get (C := RX7) (T := TX7) (N := 24) (ci := 7) hx hb hts iu7 hown hK hH (id := [20]) (by first | trivial | (simp only [xD]; omega) | (simp [xD]; done) | (simp [xD]; omega)) rfl rfl (by decide) 3 (by decide) (hts _ tw842) (fun _ h9 => h9) rfl (v := .ref (ga g [21, 3])) rfl dX7_daysLeft_34 ?_
        refine lv_iload_n hx hb dX7_daysLeft_37 rfl (lv_at hl 2 rfl) ?_
        refine x_aald hx hb hK hH (id := [21, 3]) (by first | trivial | (simp only [xD]; omega) | (simp [xD]; done) | (simp [xD]; omega)) 7 (L := 3) rfl (by decide) p rfl (by omega) (by decide) (v := .ref (ga g [22, 3, p])) (by show rq _ (if _ then _ else _) = _; rw [if_pos (show p < xLn 3 by show _ < 3; omega)]; rfl) dX7_daysLeft_38 ?_
        refine lv_iload hx hb dX7_daysLeft_39 (lv_at hl 4 rfl) ?_
        refine x_iald hx hb hK hH (id := [22, 3, p]) (by first | trivial | (simp only [xD]; omega) | (simp [xD]; done) | (simp [xD]; omega)) (L := 8) rfl (r := (I1_ [22, 3, p])) rfl i rfl (by omega) (by decide) dX7_daysLeft_41 ?_
        rw [show (I1_ [22, 3, p] i) = (I [7, p, i] 5) from ((hA1.2 i (by omega)).2.2.2.2.1.trans (congrFun (congrFun e1 i) 5))]
        refine lv_aload_n hx hb dX7_daysLeft_42 rfl (lv_at hl 0 rfl) ?_
        refine x_get (C := RX7) (T := TX7) (N := 24) (ci := 7) hx hb hts iu7 hown hK hH (id := [20]) (by first | trivial | (simp only [xD]; omega) | (simp [xD]; done) | (simp [xD]; omega)) rfl rfl (by decide) 15 (by decide) (hts _ tw854) (fun _ h9 => h9) rfl (v := .ref (ga g [21, 15])) rfl dX7_daysLeft_43 ?_
        refine lv_iload_n hx hb dX7_daysLeft_46 rfl (lv_at hl 1 rfl) ?_
        refine x_aald hx hb hK hH (id := [21, 15]) (by first | trivial | (simp only [xD]; omega) | (simp [xD]; done) | (simp [xD]; omega)) 7 (L := 4) rfl (by decide) c rfl (by omega) (by decide) (v := .ref (ga g [22, 15, c])) (by show rq _ (if _ then _ else _) = _; rw [if_pos (show c < xLn 15 by show _ < 4; omega)]; rfl) dX7_daysLeft_47 ?_
        refine lv_iload hx hb dX7_daysLeft_48 (lv_at hl 4 rfl) ?_
        refine x_iald hx hb hK hH (id := [22, 15, c]) (by first | trivial | (simp only [xD]; omega) | (simp [xD]; done) | (simp [xD]; omega)) (L := 8) rfl (r := (X 4)) (mW_r4 _ _ _) i rfl (by omega) (by decide) dX7_daysLeft_50 ?_
        refine lv_isub hx hb dX7_daysLeft_51 ?_
        refine lv_iconst (v := 1) hx hb dX7_daysLeft_52 (by decide) ?_
        refine lv_iadd hx hb dX7_daysLeft_53 ?_
        refine lv_istore (lv' := [(5, .int (((I [7, p, i] 5) - (X 4 i)) + 1)), (0, .ref (ga g [20])), (1, .int (nI c)), (2, .int (nI p)), (3, .int b), (4, .int (nI i))]) hx hb dX7_daysLeft_54 hl (by decide) rfl (fun ls hl => ?_)
        refine lv_aload_n hx hb dX7_daysLeft_56 rfl (lv_at hl 1 rfl) ?_
        refine x_get (C := RX7) (T := TX7) (N := 24) (ci := 7) hx hb hts iu7 hown hK hH (id := [20]) (by first | trivial | (simp only [xD]; omega) | (simp [xD]; done) | (simp [xD]; omega)) rfl rfl (by decide) 0 (by decide) (hts _ tw839) (fun _ h9 => h9) rfl (v := .ref (ga g [21, 0])) rfl dX7_daysLeft_57 ?_
        refine lv_iload_n hx hb dX7_daysLeft_60 rfl (lv_at hl 3 rfl) ?_
        refine x_aald hx hb hK hH (id := [21, 0]) (by first | trivial | (simp only [xD]; omega) | (simp [xD]; done) | (simp [xD]; omega)) 8 (L := 3) rfl (by decide) p rfl (by omega) (by decide) (v := .ref (ga g [22, 0, p])) (by show rq _ (if _ then _ else _) = _; rw [if_pos (show p < xLn 0 by show _ < 3; omega)]; rfl) dX7_daysLeft_61 ?_
        refine lv_iload hx hb dX7_daysLeft_62 (lv_at hl 5 rfl) ?_
        refine x_cald hx hb hK hH (id := [22, 0, p]) (by first | trivial | (simp only [xD]; omega) | (simp [xD]; done) | (simp [xD]; omega)) (L := 8) rfl (r := (I1_ [22, 0, p])) rfl i rfl (by omega) (by decide) dX7_daysLeft_64 ?_
        rw [show (I1_ [22, 0, p] i) = (I [7, p, i] 0) from ((hA1.2 i (by omega)).1.trans (congrFun (congrFun e1 i) 0))]
        refine lv_bipush (v := 116) hx hb dX7_daysLeft_65 (by decide) ?_
        refine lv_icmp_ne (tgt := 93) hx hb dX7_daysLeft_67 (by decide) (fun c_67 => ?_) (fun c_67 => ?_)
        · skip
          refine lv_iconst (v := 0) hx hb dX7_daysLeft_93 (by decide) ?_
          refine lv_istore (lv' := [(6, .int 0), (5, .int (((I [7, p, i] 5) - (X 4 i)) + 1)), (0, .ref (ga g [20])), (1, .int (nI c)), (2, .int (nI p)), (3, .int b), (4, .int (nI i))]) hx hb dX7_daysLeft_94 hl (by decide) rfl (fun ls hl => ?_)
          refine lv_iload hx hb dX7_daysLeft_96 (lv_at hl 0 rfl) ?_
          refine lv_if_eq (tgt := 117) hx hb dX7_daysLeft_98 (by decide) (fun _ => ?_) (fun q_ => absurd (by decide) q_)
          refine lv_iload_n hx hb dX7_daysLeft_117 rfl (lv_at hl 5 rfl) ?_
          refine lv_istore_n (lv' := [(3, .int b), (6, .int 0), (5, .int (((I [7, p, i] 5) - (X 4 i)) + 1)), (0, .ref (ga g [20])), (1, .int (nI c)), (2, .int (nI p)), (4, .int (nI i))]) hx hb dX7_daysLeft_118 rfl hl (by decide) rfl (fun ls hl => ?_)
          refine lv_iinc (v := (nI (i + 1))) (lv' := [(4, .int (nI (i + 1))), (3, .int b), (6, .int 0), (5, .int (((I [7, p, i] 5) - (X 4 i)) + 1)), (0, .ref (ga g [20])), (1, .int (nI c)), (2, .int (nI p))]) hx hb dX7_daysLeft_119 hl (k := 6) rfl (by first | rfl | exact nI_1 _ | exact nI_add _ _) (by decide) rfl (fun ls hl => ?_)
          refine lv_goto (tgt := 22) hx hb dX7_daysLeft_122 (by decide) ?_
          exact ih22 (i + 1) b _ _ _ (by omega) (by show _ = if sAct (vP I p) X i = true ∧ 0 < sUnt (vP I p) X i ∧ ((sFew (vP I p) X i) = -1 ∨ sUnt (vP I p) X i < (sFew (vP I p) X i)) then sUnt (vP I p) X i else (sFew (vP I p) X i); rw [if_neg (fun z_ => by have z2 := z_.1; unfold sAct at z2; rw [decide_eq_false (show ¬ vP I p i 0 = 116 from c_67)] at z2; cases z2)]; exact hbb) (by omega) hH hS (lv_sub hl [4, 5, 6, 1, 0] rfl)
        · skip
          refine lv_aload_n hx hb dX7_daysLeft_70 rfl (lv_at hl 1 rfl) ?_
          refine x_get (C := RX7) (T := TX7) (N := 24) (ci := 7) hx hb hts iu7 hown hK hH (id := [20]) (by first | trivial | (simp only [xD]; omega) | (simp [xD]; done) | (simp [xD]; omega)) rfl rfl (by decide) 14 (by decide) (hts _ tw853) (fun _ h9 => h9) rfl (v := .ref (ga g [21, 14])) rfl dX7_daysLeft_71 ?_
          refine lv_iload_n hx hb dX7_daysLeft_74 rfl (lv_at hl 2 rfl) ?_
          refine x_aald hx hb hK hH (id := [21, 14]) (by first | trivial | (simp only [xD]; omega) | (simp [xD]; done) | (simp [xD]; omega)) 8 (L := 4) rfl (by decide) c rfl (by omega) (by decide) (v := .ref (ga g [22, 14, c])) (by show rq _ (if _ then _ else _) = _; rw [if_pos (show c < xLn 14 by show _ < 4; omega)]; rfl) dX7_daysLeft_75 ?_
          refine lv_iload hx hb dX7_daysLeft_76 (lv_at hl 5 rfl) ?_
          refine x_cald hx hb hK hH (id := [22, 14, c]) (by first | trivial | (simp only [xD]; omega) | (simp [xD]; done) | (simp [xD]; omega)) (L := 8) rfl (r := (X 2)) (mW_r2 _ _ _) i rfl (by omega) (by decide) dX7_daysLeft_78 ?_
          refine lv_bipush (v := 97) hx hb dX7_daysLeft_79 (by decide) ?_
          refine lv_icmp_ne (tgt := 93) hx hb dX7_daysLeft_81 (by decide) (fun c_81 => ?_) (fun c_81 => ?_)
          · skip
            refine lv_iconst (v := 0) hx hb dX7_daysLeft_93 (by decide) ?_
            refine lv_istore (lv' := [(6, .int 0), (5, .int (((I [7, p, i] 5) - (X 4 i)) + 1)), (0, .ref (ga g [20])), (1, .int (nI c)), (2, .int (nI p)), (3, .int b), (4, .int (nI i))]) hx hb dX7_daysLeft_94 hl (by decide) rfl (fun ls hl => ?_)
            refine lv_iload hx hb dX7_daysLeft_96 (lv_at hl 0 rfl) ?_
            refine lv_if_eq (tgt := 117) hx hb dX7_daysLeft_98 (by decide) (fun _ => ?_) (fun q_ => absurd (by decide) q_)
            refine lv_iload_n hx hb dX7_daysLeft_117 rfl (lv_at hl 5 rfl) ?_
            refine lv_istore_n (lv' := [(3, .int b), (6, .int 0), (5, .int (((I [7, p, i] 5) - (X 4 i)) + 1)), (0, .ref (ga g [20])), (1, .int (nI c)), (2, .int (nI p)), (4, .int (nI i))]) hx hb dX7_daysLeft_118 rfl hl (by decide) rfl (fun ls hl => ?_)
            refine lv_iinc (v := (nI (i + 1))) (lv' := [(4, .int (nI (i + 1))), (3, .int b), (6, .int 0), (5, .int (((I [7, p, i] 5) - (X 4 i)) + 1)), (0, .ref (ga g [20])), (1, .int (nI c)), (2, .int (nI p))]) hx hb dX7_daysLeft_119 hl (k := 6) rfl (by first | rfl | exact nI_1 _ | exact nI_add _ _) (by decide) rfl (fun ls hl => ?_)
            refine lv_goto (tgt := 22) hx hb dX7_daysLeft_122 (by decide) ?_
            exact ih22 (i + 1) b _ _ _ (by omega) (by show _ = if sAct (vP I p) X i = true ∧ 0 < sUnt (vP I p) X i ∧ ((sFew (vP I p) X i) = -1 ∨ sUnt (vP I p) X i < (sFew (vP I p) X i)) then sUnt (vP I p) X i else (sFew (vP I p) X i); rw [if_neg (fun z_ => by have z2 := z_.1; unfold sAct at z2; rw [decide_eq_false c_81, Bool.and_false] at z2; cases z2)]; exact hbb) (by omega) hH hS (lv_sub hl [4, 5, 6, 1, 0] rfl)
          · skip
            refine lv_iload hx hb dX7_daysLeft_84 (lv_at hl 0 rfl) ?_
            refine lv_if_le (tgt := 93) hx hb dX7_daysLeft_86 (by decide) (fun c_86 => ?_) (fun c_86 => ?_)
            · skip
              refine lv_iconst (v := 0) hx hb dX7_daysLeft_93 (by decide) ?_
              refine lv_istore (lv' := [(6, .int 0), (5, .int (((I [7, p, i] 5) - (X 4 i)) + 1)), (0, .ref (ga g [20])), (1, .int (nI c)), (2, .int (nI p)), (3, .int b), (4, .int (nI i))]) hx hb dX7_daysLeft_94 hl (by decide) rfl (fun ls hl => ?_)
              refine lv_iload hx hb dX7_daysLeft_96 (lv_at hl 0 rfl) ?_
              refine lv_if_eq (tgt := 117) hx hb dX7_daysLeft_98 (by decide) (fun _ => ?_) (fun q_ => absurd (by decide) q_)
              refine lv_iload_n hx hb dX7_daysLeft_117 rfl (lv_at hl 5 rfl) ?_
              refine lv_istore_n (lv' := [(3, .int b), (6, .int 0), (5, .int (((I [7, p, i] 5) - (X 4 i)) + 1)), (0, .ref (ga g [20])), (1, .int (nI c)), (2, .int (nI p)), (4, .int (nI i))]) hx hb dX7_daysLeft_118 rfl hl (by decide) rfl (fun ls hl => ?_)
              refine lv_iinc (v := (nI (i + 1))) (lv' := [(4, .int (nI (i + 1))), (3, .int b), (6, .int 0), (5, .int (((I [7, p, i] 5) - (X 4 i)) + 1)), (0, .ref (ga g [20])), (1, .int (nI c)), (2, .int (nI p))]) hx hb dX7_daysLeft_119 hl (k := 6) rfl (by first | rfl | exact nI_1 _ | exact nI_add _ _) (by decide) rfl (fun ls hl => ?_)
              refine lv_goto (tgt := 22) hx hb dX7_daysLeft_122 (by decide) ?_
              exact ih22 (i + 1) b _ _ _ (by omega) (by show _ = if sAct (vP I p) X i = true ∧ 0 < sUnt (vP I p) X i ∧ ((sFew (vP I p) X i) = -1 ∨ sUnt (vP I p) X i < (sFew (vP I p) X i)) then sUnt (vP I p) X i else (sFew (vP I p) X i); rw [if_neg (fun z_ => absurd z_.2.1 (Int32.not_lt.mpr c_86))]; exact hbb) (by omega) hH hS (lv_sub hl [4, 5, 6, 1, 0] rfl)
            · skip
              refine lv_iconst (v := 1) hx hb dX7_daysLeft_89 (by decide) ?_
              refine lv_goto (tgt := 94) hx hb dX7_daysLeft_90 (by decide) ?_
              refine lv_istore (lv' := [(6, .int 1), (5, .int (((I [7, p, i] 5) - (X 4 i)) + 1)), (0, .ref (ga g [20])), (1, .int (nI c)), (2, .int (nI p)), (3, .int b), (4, .int (nI i))]) hx hb dX7_daysLeft_94 hl (by decide) rfl (fun ls hl => ?_)
              refine lv_iload hx hb dX7_daysLeft_96 (lv_at hl 0 rfl) ?_
              refine lv_if_eq (tgt := 117) hx hb dX7_daysLeft_98 (by decide) (fun q_ => absurd q_ (by decide)) (fun _ => ?_)
              refine lv_iload_n hx hb dX7_daysLeft_101 rfl (lv_at hl 5 rfl) ?_
              refine lv_iconst (v := (-1)) hx hb dX7_daysLeft_102 (by decide) ?_
              refine lv_icmp_eq (tgt := 112) hx hb dX7_daysLeft_103 (by decide) (fun c_103 => ?_) (fun c_103 => ?_)
              · skip
                refine lv_iload hx hb dX7_daysLeft_112 (lv_at hl 1 rfl) ?_
                refine lv_goto (tgt := 118) hx hb dX7_daysLeft_114 (by decide) ?_
                refine lv_istore_n (lv' := [(3, .int (((I [7, p, i] 5) - (X 4 i)) + 1)), (6, .int 1), (5, .int (((I [7, p, i] 5) - (X 4 i)) + 1)), (0, .ref (ga g [20])), (1, .int (nI c)), (2, .int (nI p)), (4, .int (nI i))]) hx hb dX7_daysLeft_118 rfl hl (by decide) rfl (fun ls hl => ?_)
                refine lv_iinc (v := (nI (i + 1))) (lv' := [(4, .int (nI (i + 1))), (3, .int (((I [7, p, i] 5) - (X 4 i)) + 1)), (6, .int 1), (5, .int (((I [7, p, i] 5) - (X 4 i)) + 1)), (0, .ref (ga g [20])), (1, .int (nI c)), (2, .int (nI p))]) hx hb dX7_daysLeft_119 hl (k := 6) rfl (by first | rfl | exact nI_1 _ | exact nI_add _ _) (by decide) rfl (fun ls hl => ?_)
                refine lv_goto (tgt := 22) hx hb dX7_daysLeft_122 (by decide) ?_
                exact ih22 (i + 1) ((((I [7, p, i] 5) - (X 4 i)) + 1)) _ _ _ (by omega) (by show _ = if sAct (vP I p) X i = true ∧ 0 < sUnt (vP I p) X i ∧ ((sFew (vP I p) X i) = -1 ∨ sUnt (vP I p) X i < (sFew (vP I p) X i)) then sUnt (vP I p) X i else (sFew (vP I p) X i); rw [if_pos ⟨(by unfold sAct; rw [decide_eq_true (show vP I p i 0 = 116 from c_67), decide_eq_true c_81]; rfl), (show 0 < sUnt (vP I p) X i from i_nle c_86), Or.inl (hbb ▸ c_103)⟩]; rfl) (by omega) hH hS (lv_sub hl [4, 5, 6, 1, 0] rfl)
              · skip
                refine lv_iload hx hb dX7_daysLeft_106 (lv_at hl 1 rfl) ?_
                refine lv_iload_n hx hb dX7_daysLeft_108 rfl (lv_at hl 5 rfl) ?_
                refine lv_icmp_ge (tgt := 117) hx hb dX7_daysLeft_109 (by decide) (fun c_109 => ?_) (fun c_109 => ?_)
                · skip
                  refine lv_iload_n hx hb dX7_daysLeft_117 rfl (lv_at hl 5 rfl) ?_
                  refine lv_istore_n (lv' := [(3, .int b), (6, .int 1), (5, .int (((I [7, p, i] 5) - (X 4 i)) + 1)), (0, .ref (ga g [20])), (1, .int (nI c)), (2, .int (nI p)), (4, .int (nI i))]) hx hb dX7_daysLeft_118 rfl hl (by decide) rfl (fun ls hl => ?_)
                  refine lv_iinc (v := (nI (i + 1))) (lv' := [(4, .int (nI (i + 1))), (3, .int b), (6, .int 1), (5, .int (((I [7, p, i] 5) - (X 4 i)) + 1)), (0, .ref (ga g [20])), (1, .int (nI c)), (2, .int (nI p))]) hx hb dX7_daysLeft_119 hl (k := 6) rfl (by first | rfl | exact nI_1 _ | exact nI_add _ _) (by decide) rfl (fun ls hl => ?_)
                  refine lv_goto (tgt := 22) hx hb dX7_daysLeft_122 (by decide) ?_
                  exact ih22 (i + 1) b _ _ _ (by omega) (by show _ = if sAct (vP I p) X i = true ∧ 0 < sUnt (vP I p) X i ∧ ((sFew (vP I p) X i) = -1 ∨ sUnt (vP I p) X i < (sFew (vP I p) X i)) then sUnt (vP I p) X i else (sFew (vP I p) X i); rw [if_neg (fun z_ => z_.2.2.elim (fun e => c_103 (hbb.trans e)) (fun e => absurd (show sUnt (vP I p) X i < b from hbb ▸ e) (Int32.not_lt.mpr c_109)))]; exact hbb) (by omega) hH hS (lv_sub hl [4, 5, 6, 1, 0] rfl)
                · skip
                  refine lv_iload hx hb dX7_daysLeft_112 (lv_at hl 1 rfl) ?_
                  refine lv_goto (tgt := 118) hx hb dX7_daysLeft_114 (by decide) ?_
                  refine lv_istore_n (lv' := [(3, .int (((I [7, p, i] 5) - (X 4 i)) + 1)), (6, .int 1), (5, .int (((I [7, p, i] 5) - (X 4 i)) + 1)), (0, .ref (ga g [20])), (1, .int (nI c)), (2, .int (nI p)), (4, .int (nI i))]) hx hb dX7_daysLeft_118 rfl hl (by decide) rfl (fun ls hl => ?_)
                  refine lv_iinc (v := (nI (i + 1))) (lv' := [(4, .int (nI (i + 1))), (3, .int (((I [7, p, i] 5) - (X 4 i)) + 1)), (6, .int 1), (5, .int (((I [7, p, i] 5) - (X 4 i)) + 1)), (0, .ref (ga g [20])), (1, .int (nI c)), (2, .int (nI p))]) hx hb dX7_daysLeft_119 hl (k := 6) rfl (by first | rfl | exact nI_1 _ | exact nI_add _ _) (by decide) rfl (fun ls hl => ?_)
                  refine lv_goto (tgt := 22) hx hb dX7_daysLeft_122 (by decide) ?_
                  exact ih22 (i + 1) ((((I [7, p, i] 5) - (X 4 i)) + 1)) _ _ _ (by omega) (by show _ = if sAct (vP I p) X i = true ∧ 0 < sUnt (vP I p) X i ∧ ((sFew (vP I p) X i) = -1 ∨ sUnt (vP I p) X i < (sFew (vP I p) X i)) then sUnt (vP I p) X i else (sFew (vP I p) X i); rw [if_pos ⟨(by unfold sAct; rw [decide_eq_true (show vP I p i 0 = 116 from c_67), decide_eq_true c_81]; rfl), (show 0 < sUnt (vP I p) X i from i_nle c_86), Or.inr (show sUnt (vP I p) X i < (sFew (vP I p) X i) from hbb ▸ i_nle c_109)⟩]; rfl) (by omega) hH hS (lv_sub hl [4, 5, 6, 1, 0] rfl)
  exact L22 _ 0 ((-1)) _ _ _ (Nat.zero_le _) rfl (Nat.lt_succ_self _) hH hS (lv_sub hl [3, 4, 2, 1, 0] rfl)

set_option maxHeartbeats 1000000 in
set_option maxRecDepth 100000 in
theorem c_X7_daysLeft_n (l : Launch) (g : xG) (h : xS) (I : xI) (n : Nat) (c : Nat) (X : xX) (m : Nat) (hm4 : m ≤ 4) (hm : I [20] 20 = nI m) (hc : c < m) (p : Nat) (hpp : p < 3) (hpo : I [24, 11] c = nI p) (hA : mA h I p) (hW : xWp h I p) (hf : (sFew (vP I p) X (sSz h p)) = -1)  : xM l yX7_daysLeft (xws yX7_daysLeft cX7_daysLeft 7 (some FieldType.int)) 4 76 g [.ref (ga g [20]), .int (nI c)] (xR g (xD h) (mW I c X) (xFh h) n) (some (.int 0)) (xR g (xD h) (mW (up I [20] 23 2) c X) (xFh h) n) 0 0 := by
  refine xM.of (by decide) (Nat.le_of_ble_eq_true rfl) ?_
  intro P_ e_ s m_ bl_ mt_ cd_ ls hx hb hr hown hlocks hml hnm hE hK hts hH hS hl
  have hl : lv_has ls 7 [(0, .ref (ga g [20])), (1, .int (nI c))] := hl
  have h8 := hW.1
  have hc4 : c < 4 := by omega
  refine lv_aload_n hx hb dX7_daysLeft_0 rfl (lv_at hl 0 rfl) ?_
  refine lv_iload_n hx hb dX7_daysLeft_1 rfl (lv_at hl 1 rfl) ?_
  refine x_V1 hx hb hml hown hE hS hl.1 cyX7_misses tw1090 (c_X7_misses_0 l g h (mW I c X) n m hm4 (by rw [mW_20 _ _ _ (by decide)]; exact hm) c hc) ⟨Nat.le_of_ble_eq_true rfl, Nat.le_of_ble_eq_true rfl⟩ ⟨Nat.le_of_ble_eq_true rfl, Nat.le_of_ble_eq_true rfl⟩ (x_recv hK hH (id := [20]) (by first | trivial | (simp only [xD]; omega) | (simp [xD]; done) | (simp [xD]; omega)) (ci := 7) rfl (by decide) rfl) hH rfl rfl (Nat.le_of_ble_eq_true rfl) dX7_daysLeft_2 (fun H locs hH hS => ?_)
  obtain ⟨I1_, hI1_⟩ : ∃ z, z = up I [20] 23 0 := ⟨_, rfl⟩
  rw [mW_u20 _ _ _ _ (by decide), ← hI1_] at hH
  have hsm : ∀ id, pK id = true → I1_ id = I id := by rw [hI1_]; exact pK_20 I 23 _
  have hpo1 : I1_ [24, 11] c = nI p := by rw [hI1_]; exact hpo
  have hA1 := hA.same hsm
  have hW1 := hW.same hsm
  have e1 := vP_same hsm p
  have e2 := vC_same hsm p
  refine lv_if_eq (tgt := 10) hx hb dX7_daysLeft_5 (by decide) (fun _ => ?_) (fun q_ => absurd (by decide) q_)
  refine lv_aload_n hx hb dX7_daysLeft_10 rfl (lv_at hl 0 rfl) ?_
  refine x_get (C := RX7) (T := TX7) (N := 24) (ci := 7) hx hb hts iu7 hown hK hH (id := [20]) (by first | trivial | (simp only [xD]; omega) | (simp [xD]; done) | (simp [xD]; omega)) rfl rfl (by decide) 11 (by decide) (hts _ tw850) (fun _ h9 => h9) rfl (v := .ref (ga g [24, 11])) rfl dX7_daysLeft_11 ?_
  refine lv_iload_n hx hb dX7_daysLeft_14 rfl (lv_at hl 1 rfl) ?_
  refine x_iald hx hb hK hH (id := [24, 11]) (by first | trivial | (simp only [xD]; omega) | (simp [xD]; done) | (simp [xD]; omega)) (L := 4) rfl (r := (I1_ [24, 11])) rfl c rfl (by omega) (by decide) dX7_daysLeft_15 ?_
  rw [show (I1_ [24, 11] c) = (nI p) from hpo1]
  refine lv_istore_n (lv' := [(2, .int (nI p)), (0, .ref (ga g [20])), (1, .int (nI c))]) hx hb dX7_daysLeft_16 rfl hl (by decide) rfl (fun ls hl => ?_)
  refine lv_iconst (v := (-1)) hx hb dX7_daysLeft_17 (by decide) ?_
  refine lv_istore_n (lv' := [(3, .int (-1)), (2, .int (nI p)), (0, .ref (ga g [20])), (1, .int (nI c))]) hx hb dX7_daysLeft_18 rfl hl (by decide) rfl (fun ls hl => ?_)
  refine lv_iconst (v := 0) hx hb dX7_daysLeft_19 (by decide) ?_
  refine lv_istore (lv' := [(4, .int 0), (3, .int (-1)), (2, .int (nI p)), (0, .ref (ga g [20])), (1, .int (nI c))]) hx hb dX7_daysLeft_20 hl (by decide) rfl (fun ls hl => ?_)
  have L22 : ∀ (fu : Nat) (i : Nat) (b : Int32) (H : Heap) (locs : List Loc) (ls : Array Slot), (i ≤ sSz h p) → (b = (sFew (vP I p) X i)) → sSz h p - i < fu → xR g (xD h) (mW I1_ c X) (xFh h) n H → va_S (gA g) s.heap H locs → lv_has ls 7 [(0, .ref (ga g [20])), (1, .int (nI c)), (2, .int (nI p)), (3, .int b), (4, .int (nI i))] → W P_ l e_ { frames := 4, cells := 0, slots := 0, locals := 76 } s m_ ([.ref (ga g [20]), .int (nI c)] : List Value).toArray bl_ mt_ cd_ H locs 0 0 (MQ bl_ (xQc g (some (.int 0)) (xR g (xD h) (mW (up I [20] 23 2) c X) (xFh h) n)) ([.ref (ga g [20]), .int (nI c)] : List Value).toArray s 0 0 (gA g)) (F0 m_ 22 ls []) := by
    intro fu
    induction fu with
    | zero => intro i b H locs ls hi hbb hfu; exact absurd hfu (Nat.not_lt_zero _)
    | succ fu ih22 =>
      intro i b H locs ls hi hbb hfu hH hS hl
      refine lv_iload hx hb dX7_daysLeft_22 (lv_at hl 4 rfl) ?_
      refine lv_aload_n hx hb dX7_daysLeft_24 rfl (lv_at hl 0 rfl) ?_
      refine x_get (C := RX7) (T := TX7) (N := 24) (ci := 7) hx hb hts iu7 hown hK hH (id := [20]) (by first | trivial | (simp only [xD]; omega) | (simp [xD]; done) | (simp [xD]; omega)) rfl rfl (by decide) 8 (by decide) (hts _ tw847) (fun _ h9 => h9) rfl (v := .ref (ga g [24, 8])) rfl dX7_daysLeft_25 ?_
      refine lv_iload_n hx hb dX7_daysLeft_28 rfl (lv_at hl 2 rfl) ?_
      refine x_iald hx hb hK hH (id := [24, 8]) (by first | trivial | (simp only [xD]; omega) | (simp [xD]; done) | (simp [xD]; omega)) (L := 3) rfl (r := (I1_ [24, 8])) rfl p rfl (by omega) (by decide) dX7_daysLeft_29 ?_
      rw [show (I1_ [24, 8] p) = (nI (sSz h p)) from hA1.1]
      refine lv_icmp_ge (tgt := 125) hx hb dX7_daysLeft_30 (by decide) (fun c_30 => ?_) (fun c_30 => ?_)
      · skip
        have c_30 := (nI_leI (a := (sSz h p)) (b := i) (by omega) (by omega)).mp c_30
        refine lv_iload_n hx hb dX7_daysLeft_125 rfl (lv_at hl 3 rfl) ?_
        refine lv_iconst (v := (-1)) hx hb dX7_daysLeft_126 (by decide) ?_
        refine lv_icmp_ne (tgt := 138) hx hb dX7_daysLeft_127 (by decide) (fun q_ => absurd q_ (fun z_ => z_ (by rw [hbb, show i = sSz h p by omega]; exact hf))) (fun _ => ?_)
        refine lv_aload_n hx hb dX7_daysLeft_130 rfl (lv_at hl 0 rfl) ?_
        refine lv_iconst (v := 2) hx hb dX7_daysLeft_131 (by decide) ?_
        refine x_V1 hx hb hml hown hE hS hl.1 cyX7_raises tw921 (c_X7_raises l g h (mW I1_ c X) n 2) ⟨Nat.le_of_ble_eq_true rfl, Nat.le_of_ble_eq_true rfl⟩ ⟨Nat.le_of_ble_eq_true rfl, Nat.le_of_ble_eq_true rfl⟩ (x_recv hK hH (id := [20]) (by first | trivial | (simp only [xD]; omega) | (simp [xD]; done) | (simp [xD]; omega)) (ci := 7) rfl (by decide) rfl) hH rfl rfl (Nat.le_of_ble_eq_true rfl) dX7_daysLeft_132 (fun H locs hH hS => ?_)
        rw [mW_u20 _ _ _ _ (by decide), hI1_, up_up] at hH
        refine lv_goto (tgt := 139) hx hb dX7_daysLeft_135 (by decide) ?_
        exact x_iret hx hb hr hlocks hS dX7_daysLeft_139 rfl hH
      · skip
        have c_30 : ¬ _ := fun z_ => c_30 ((nI_leI (a := (sSz h p)) (b := i) (by omega) (by omega)).mpr z_)
        refine lv_aload_n hx hb dX7_daysLeft_33 rfl (lv_at hl 0 rfl) ?_
        refine x_get (C := RX7) (T := TX7) (N := 24) (ci := 7) hx hb hts iu7 hown hK hH (id := [20]) (by first | trivial | (simp only [xD]; omega) | (simp [xD]; done) | (simp [xD]; omega)) rfl rfl (by decide) 3 (by decide) (hts _ tw842) (fun _ h9 => h9) rfl (v := .ref (ga g [21, 3])) rfl dX7_daysLeft_34 ?_
        refine lv_iload_n hx hb dX7_daysLeft_37 rfl (lv_at hl 2 rfl) ?_
        refine x_aald hx hb hK hH (id := [21, 3]) (by first | trivial | (simp only [xD]; omega) | (simp [xD]; done) | (simp [xD]; omega)) 7 (L := 3) rfl (by decide) p rfl (by omega) (by decide) (v := .ref (ga g [22, 3, p])) (by show rq _ (if _ then _ else _) = _; rw [if_pos (show p < xLn 3 by show _ < 3; omega)]; rfl) dX7_daysLeft_38 ?_
        refine lv_iload hx hb dX7_daysLeft_39 (lv_at hl 4 rfl) ?_
        refine x_iald hx hb hK hH (id := [22, 3, p]) (by first | trivial | (simp only [xD]; omega) | (simp [xD]; done) | (simp [xD]; omega)) (L := 8) rfl (r := (I1_ [22, 3, p])) rfl i rfl (by omega) (by decide) dX7_daysLeft_41 ?_
        rw [show (I1_ [22, 3, p] i) = (I [7, p, i] 5) from ((hA1.2 i (by omega)).2.2.2.2.1.trans (congrFun (congrFun e1 i) 5))]
        refine lv_aload_n hx hb dX7_daysLeft_42 rfl (lv_at hl 0 rfl) ?_
        refine x_get (C := RX7) (T := TX7) (N := 24) (ci := 7) hx hb hts iu7 hown hK hH (id := [20]) (by first | trivial | (simp only [xD]; omega) | (simp [xD]; done) | (simp [xD]; omega)) rfl rfl (by decide) 15 (by decide) (hts _ tw854) (fun _ h9 => h9) rfl (v := .ref (ga g [21, 15])) rfl dX7_daysLeft_43 ?_
        refine lv_iload_n hx hb dX7_daysLeft_46 rfl (lv_at hl 1 rfl) ?_
        refine x_aald hx hb hK hH (id := [21, 15]) (by first | trivial | (simp only [xD]; omega) | (simp [xD]; done) | (simp [xD]; omega)) 7 (L := 4) rfl (by decide) c rfl (by omega) (by decide) (v := .ref (ga g [22, 15, c])) (by show rq _ (if _ then _ else _) = _; rw [if_pos (show c < xLn 15 by show _ < 4; omega)]; rfl) dX7_daysLeft_47 ?_
        refine lv_iload hx hb dX7_daysLeft_48 (lv_at hl 4 rfl) ?_
        refine x_iald hx hb hK hH (id := [22, 15, c]) (by first | trivial | (simp only [xD]; omega) | (simp [xD]; done) | (simp [xD]; omega)) (L := 8) rfl (r := (X 4)) (mW_r4 _ _ _) i rfl (by omega) (by decide) dX7_daysLeft_50 ?_
        refine lv_isub hx hb dX7_daysLeft_51 ?_
        refine lv_iconst (v := 1) hx hb dX7_daysLeft_52 (by decide) ?_
        refine lv_iadd hx hb dX7_daysLeft_53 ?_
        refine lv_istore (lv' := [(5, .int (((I [7, p, i] 5) - (X 4 i)) + 1)), (0, .ref (ga g [20])), (1, .int (nI c)), (2, .int (nI p)), (3, .int b), (4, .int (nI i))]) hx hb dX7_daysLeft_54 hl (by decide) rfl (fun ls hl => ?_)
        refine lv_aload_n hx hb dX7_daysLeft_56 rfl (lv_at hl 1 rfl) ?_
        refine x_get (C := RX7) (T := TX7) (N := 24) (ci := 7) hx hb hts iu7 hown hK hH (id := [20]) (by first | trivial | (simp only [xD]; omega) | (simp [xD]; done) | (simp [xD]; omega)) rfl rfl (by decide) 0 (by decide) (hts _ tw839) (fun _ h9 => h9) rfl (v := .ref (ga g [21, 0])) rfl dX7_daysLeft_57 ?_
        refine lv_iload_n hx hb dX7_daysLeft_60 rfl (lv_at hl 3 rfl) ?_
        refine x_aald hx hb hK hH (id := [21, 0]) (by first | trivial | (simp only [xD]; omega) | (simp [xD]; done) | (simp [xD]; omega)) 8 (L := 3) rfl (by decide) p rfl (by omega) (by decide) (v := .ref (ga g [22, 0, p])) (by show rq _ (if _ then _ else _) = _; rw [if_pos (show p < xLn 0 by show _ < 3; omega)]; rfl) dX7_daysLeft_61 ?_
        refine lv_iload hx hb dX7_daysLeft_62 (lv_at hl 5 rfl) ?_
        refine x_cald hx hb hK hH (id := [22, 0, p]) (by first | trivial | (simp only [xD]; omega) | (simp [xD]; done) | (simp [xD]; omega)) (L := 8) rfl (r := (I1_ [22, 0, p])) rfl i rfl (by omega) (by decide) dX7_daysLeft_64 ?_
        rw [show (I1_ [22, 0, p] i) = (I [7, p, i] 0) from ((hA1.2 i (by omega)).1.trans (congrFun (congrFun e1 i) 0))]
        refine lv_bipush (v := 116) hx hb dX7_daysLeft_65 (by decide) ?_
        refine lv_icmp_ne (tgt := 93) hx hb dX7_daysLeft_67 (by decide) (fun c_67 => ?_) (fun c_67 => ?_)
        · skip
          refine lv_iconst (v := 0) hx hb dX7_daysLeft_93 (by decide) ?_
          refine lv_istore (lv' := [(6, .int 0), (5, .int (((I [7, p, i] 5) - (X 4 i)) + 1)), (0, .ref (ga g [20])), (1, .int (nI c)), (2, .int (nI p)), (3, .int b), (4, .int (nI i))]) hx hb dX7_daysLeft_94 hl (by decide) rfl (fun ls hl => ?_)
          refine lv_iload hx hb dX7_daysLeft_96 (lv_at hl 0 rfl) ?_
          refine lv_if_eq (tgt := 117) hx hb dX7_daysLeft_98 (by decide) (fun _ => ?_) (fun q_ => absurd (by decide) q_)
          refine lv_iload_n hx hb dX7_daysLeft_117 rfl (lv_at hl 5 rfl) ?_
          refine lv_istore_n (lv' := [(3, .int b), (6, .int 0), (5, .int (((I [7, p, i] 5) - (X 4 i)) + 1)), (0, .ref (ga g [20])), (1, .int (nI c)), (2, .int (nI p)), (4, .int (nI i))]) hx hb dX7_daysLeft_118 rfl hl (by decide) rfl (fun ls hl => ?_)
          refine lv_iinc (v := (nI (i + 1))) (lv' := [(4, .int (nI (i + 1))), (3, .int b), (6, .int 0), (5, .int (((I [7, p, i] 5) - (X 4 i)) + 1)), (0, .ref (ga g [20])), (1, .int (nI c)), (2, .int (nI p))]) hx hb dX7_daysLeft_119 hl (k := 6) rfl (by first | rfl | exact nI_1 _ | exact nI_add _ _) (by decide) rfl (fun ls hl => ?_)
          refine lv_goto (tgt := 22) hx hb dX7_daysLeft_122 (by decide) ?_
          exact ih22 (i + 1) b _ _ _ (by omega) (by show _ = if sAct (vP I p) X i = true ∧ 0 < sUnt (vP I p) X i ∧ ((sFew (vP I p) X i) = -1 ∨ sUnt (vP I p) X i < (sFew (vP I p) X i)) then sUnt (vP I p) X i else (sFew (vP I p) X i); rw [if_neg (fun z_ => by have z2 := z_.1; unfold sAct at z2; rw [decide_eq_false (show ¬ vP I p i 0 = 116 from c_67)] at z2; cases z2)]; exact hbb) (by omega) hH hS (lv_sub hl [4, 5, 6, 1, 0] rfl)
        · skip
          refine lv_aload_n hx hb dX7_daysLeft_70 rfl (lv_at hl 1 rfl) ?_
          refine x_get (C := RX7) (T := TX7) (N := 24) (ci := 7) hx hb hts iu7 hown hK hH (id := [20]) (by first | trivial | (simp only [xD]; omega) | (simp [xD]; done) | (simp [xD]; omega)) rfl rfl (by decide) 14 (by decide) (hts _ tw853) (fun _ h9 => h9) rfl (v := .ref (ga g [21, 14])) rfl dX7_daysLeft_71 ?_
          refine lv_iload_n hx hb dX7_daysLeft_74 rfl (lv_at hl 2 rfl) ?_
          refine x_aald hx hb hK hH (id := [21, 14]) (by first | trivial | (simp only [xD]; omega) | (simp [xD]; done) | (simp [xD]; omega)) 8 (L := 4) rfl (by decide) c rfl (by omega) (by decide) (v := .ref (ga g [22, 14, c])) (by show rq _ (if _ then _ else _) = _; rw [if_pos (show c < xLn 14 by show _ < 4; omega)]; rfl) dX7_daysLeft_75 ?_
          refine lv_iload hx hb dX7_daysLeft_76 (lv_at hl 5 rfl) ?_
          refine x_cald hx hb hK hH (id := [22, 14, c]) (by first | trivial | (simp only [xD]; omega) | (simp [xD]; done) | (simp [xD]; omega)) (L := 8) rfl (r := (X 2)) (mW_r2 _ _ _) i rfl (by omega) (by decide) dX7_daysLeft_78 ?_
          refine lv_bipush (v := 97) hx hb dX7_daysLeft_79 (by decide) ?_
          refine lv_icmp_ne (tgt := 93) hx hb dX7_daysLeft_81 (by decide) (fun c_81 => ?_) (fun c_81 => ?_)
          · skip
            refine lv_iconst (v := 0) hx hb dX7_daysLeft_93 (by decide) ?_
            refine lv_istore (lv' := [(6, .int 0), (5, .int (((I [7, p, i] 5) - (X 4 i)) + 1)), (0, .ref (ga g [20])), (1, .int (nI c)), (2, .int (nI p)), (3, .int b), (4, .int (nI i))]) hx hb dX7_daysLeft_94 hl (by decide) rfl (fun ls hl => ?_)
            refine lv_iload hx hb dX7_daysLeft_96 (lv_at hl 0 rfl) ?_
            refine lv_if_eq (tgt := 117) hx hb dX7_daysLeft_98 (by decide) (fun _ => ?_) (fun q_ => absurd (by decide) q_)
            refine lv_iload_n hx hb dX7_daysLeft_117 rfl (lv_at hl 5 rfl) ?_
            refine lv_istore_n (lv' := [(3, .int b), (6, .int 0), (5, .int (((I [7, p, i] 5) - (X 4 i)) + 1)), (0, .ref (ga g [20])), (1, .int (nI c)), (2, .int (nI p)), (4, .int (nI i))]) hx hb dX7_daysLeft_118 rfl hl (by decide) rfl (fun ls hl => ?_)
            refine lv_iinc (v := (nI (i + 1))) (lv' := [(4, .int (nI (i + 1))), (3, .int b), (6, .int 0), (5, .int (((I [7, p, i] 5) - (X 4 i)) + 1)), (0, .ref (ga g [20])), (1, .int (nI c)), (2, .int (nI p))]) hx hb dX7_daysLeft_119 hl (k := 6) rfl (by first | rfl | exact nI_1 _ | exact nI_add _ _) (by decide) rfl (fun ls hl => ?_)
            refine lv_goto (tgt := 22) hx hb dX7_daysLeft_122 (by decide) ?_
            exact ih22 (i + 1) b _ _ _ (by omega) (by show _ = if sAct (vP I p) X i = true ∧ 0 < sUnt (vP I p) X i ∧ ((sFew (vP I p) X i) = -1 ∨ sUnt (vP I p) X i < (sFew (vP I p) X i)) then sUnt (vP I p) X i else (sFew (vP I p) X i); rw [if_neg (fun z_ => by have z2 := z_.1; unfold sAct at z2; rw [decide_eq_false c_81, Bool.and_false] at z2; cases z2)]; exact hbb) (by omega) hH hS (lv_sub hl [4, 5, 6, 1, 0] rfl)
          · skip
            refine lv_iload hx hb dX7_daysLeft_84 (lv_at hl 0 rfl) ?_
            refine lv_if_le (tgt := 93) hx hb dX7_daysLeft_86 (by decide) (fun c_86 => ?_) (fun c_86 => ?_)
            · skip
              refine lv_iconst (v := 0) hx hb dX7_daysLeft_93 (by decide) ?_
              refine lv_istore (lv' := [(6, .int 0), (5, .int (((I [7, p, i] 5) - (X 4 i)) + 1)), (0, .ref (ga g [20])), (1, .int (nI c)), (2, .int (nI p)), (3, .int b), (4, .int (nI i))]) hx hb dX7_daysLeft_94 hl (by decide) rfl (fun ls hl => ?_)
              refine lv_iload hx hb dX7_daysLeft_96 (lv_at hl 0 rfl) ?_
              refine lv_if_eq (tgt := 117) hx hb dX7_daysLeft_98 (by decide) (fun _ => ?_) (fun q_ => absurd (by decide) q_)
              refine lv_iload_n hx hb dX7_daysLeft_117 rfl (lv_at hl 5 rfl) ?_
              refine lv_istore_n (lv' := [(3, .int b), (6, .int 0), (5, .int (((I [7, p, i] 5) - (X 4 i)) + 1)), (0, .ref (ga g [20])), (1, .int (nI c)), (2, .int (nI p)), (4, .int (nI i))]) hx hb dX7_daysLeft_118 rfl hl (by decide) rfl (fun ls hl => ?_)
              refine lv_iinc (v := (nI (i + 1))) (lv' := [(4, .int (nI (i + 1))), (3, .int b), (6, .int 0), (5, .int (((I [7, p, i] 5) - (X 4 i)) + 1)), (0, .ref (ga g [20])), (1, .int (nI c)), (2, .int (nI p))]) hx hb dX7_daysLeft_119 hl (k := 6) rfl (by first | rfl | exact nI_1 _ | exact nI_add _ _) (by decide) rfl (fun ls hl => ?_)
              refine lv_goto (tgt := 22) hx hb dX7_daysLeft_122 (by decide) ?_
              exact ih22 (i + 1) b _ _ _ (by omega) (by show _ = if sAct (vP I p) X i = true ∧ 0 < sUnt (vP I p) X i ∧ ((sFew (vP I p) X i) = -1 ∨ sUnt (vP I p) X i < (sFew (vP I p) X i)) then sUnt (vP I p) X i else (sFew (vP I p) X i); rw [if_neg (fun z_ => absurd z_.2.1 (Int32.not_lt.mpr c_86))]; exact hbb) (by omega) hH hS (lv_sub hl [4, 5, 6, 1, 0] rfl)
            · skip
              refine lv_iconst (v := 1) hx hb dX7_daysLeft_89 (by decide) ?_
              refine lv_goto (tgt := 94) hx hb dX7_daysLeft_90 (by decide) ?_
              refine lv_istore (lv' := [(6, .int 1), (5, .int (((I [7, p, i] 5) - (X 4 i)) + 1)), (0, .ref (ga g [20])), (1, .int (nI c)), (2, .int (nI p)), (3, .int b), (4, .int (nI i))]) hx hb dX7_daysLeft_94 hl (by decide) rfl (fun ls hl => ?_)
              refine lv_iload hx hb dX7_daysLeft_96 (lv_at hl 0 rfl) ?_
              refine lv_if_eq (tgt := 117) hx hb dX7_daysLeft_98 (by decide) (fun q_ => absurd q_ (by decide)) (fun _ => ?_)
              refine lv_iload_n hx hb dX7_daysLeft_101 rfl (lv_at hl 5 rfl) ?_
              refine lv_iconst (v := (-1)) hx hb dX7_daysLeft_102 (by decide) ?_
              refine lv_icmp_eq (tgt := 112) hx hb dX7_daysLeft_103 (by decide) (fun c_103 => ?_) (fun c_103 => ?_)
              · skip
                refine lv_iload hx hb dX7_daysLeft_112 (lv_at hl 1 rfl) ?_
                refine lv_goto (tgt := 118) hx hb dX7_daysLeft_114 (by decide) ?_
                refine lv_istore_n (lv' := [(3, .int (((I [7, p, i] 5) - (X 4 i)) + 1)), (6, .int 1), (5, .int (((I [7, p, i] 5) - (X 4 i)) + 1)), (0, .ref (ga g [20])), (1, .int (nI c)), (2, .int (nI p)), (4, .int (nI i))]) hx hb dX7_daysLeft_118 rfl hl (by decide) rfl (fun ls hl => ?_)
                refine lv_iinc (v := (nI (i + 1))) (lv' := [(4, .int (nI (i + 1))), (3, .int (((I [7, p, i] 5) - (X 4 i)) + 1)), (6, .int 1), (5, .int (((I [7, p, i] 5) - (X 4 i)) + 1)), (0, .ref (ga g [20])), (1, .int (nI c)), (2, .int (nI p))]) hx hb dX7_daysLeft_119 hl (k := 6) rfl (by first | rfl | exact nI_1 _ | exact nI_add _ _) (by decide) rfl (fun ls hl => ?_)
                refine lv_goto (tgt := 22) hx hb dX7_daysLeft_122 (by decide) ?_
                exact ih22 (i + 1) ((((I [7, p, i] 5) - (X 4 i)) + 1)) _ _ _ (by omega) (by show _ = if sAct (vP I p) X i = true ∧ 0 < sUnt (vP I p) X i ∧ ((sFew (vP I p) X i) = -1 ∨ sUnt (vP I p) X i < (sFew (vP I p) X i)) then sUnt (vP I p) X i else (sFew (vP I p) X i); rw [if_pos ⟨(by unfold sAct; rw [decide_eq_true (show vP I p i 0 = 116 from c_67), decide_eq_true c_81]; rfl), (show 0 < sUnt (vP I p) X i from i_nle c_86), Or.inl (hbb ▸ c_103)⟩]; rfl) (by omega) hH hS (lv_sub hl [4, 5, 6, 1, 0] rfl)
              · skip
                refine lv_iload hx hb dX7_daysLeft_106 (lv_at hl 1 rfl) ?_
                refine lv_iload_n hx hb dX7_daysLeft_108 rfl (lv_at hl 5 rfl) ?_
                refine lv_icmp_ge (tgt := 117) hx hb dX7_daysLeft_109 (by decide) (fun c_109 => ?_) (fun c_109 => ?_)
                · skip
                  refine lv_iload_n hx hb dX7_daysLeft_117 rfl (lv_at hl 5 rfl) ?_
                  refine lv_istore_n (lv' := [(3, .int b), (6, .int 1), (5, .int (((I [7, p, i] 5) - (X 4 i)) + 1)), (0, .ref (ga g [20])), (1, .int (nI c)), (2, .int (nI p)), (4, .int (nI i))]) hx hb dX7_daysLeft_118 rfl hl (by decide) rfl (fun ls hl => ?_)
                  refine lv_iinc (v := (nI (i + 1))) (lv' := [(4, .int (nI (i + 1))), (3, .int b), (6, .int 1), (5, .int (((I [7, p, i] 5) - (X 4 i)) + 1)), (0, .ref (ga g [20])), (1, .int (nI c)), (2, .int (nI p))]) hx hb dX7_daysLeft_119 hl (k := 6) rfl (by first | rfl | exact nI_1 _ | exact nI_add _ _) (by decide) rfl (fun ls hl => ?_)
                  refine lv_goto (tgt := 22) hx hb dX7_daysLeft_122 (by decide) ?_
                  exact ih22 (i + 1) b _ _ _ (by omega) (by show _ = if sAct (vP I p) X i = true ∧ 0 < sUnt (vP I p) X i ∧ ((sFew (vP I p) X i) = -1 ∨ sUnt (vP I p) X i < (sFew (vP I p) X i)) then sUnt (vP I p) X i else (sFew (vP I p) X i); rw [if_neg (fun z_ => z_.2.2.elim (fun e => c_103 (hbb.trans e)) (fun e => absurd (show sUnt (vP I p) X i < b from hbb ▸ e) (Int32.not_lt.mpr c_109)))]; exact hbb) (by omega) hH hS (lv_sub hl [4, 5, 6, 1, 0] rfl)
                · skip
                  refine lv_iload hx hb dX7_daysLeft_112 (lv_at hl 1 rfl) ?_
                  refine lv_goto (tgt := 118) hx hb dX7_daysLeft_114 (by decide) ?_
                  refine lv_istore_n (lv' := [(3, .int (((I [7, p, i] 5) - (X 4 i)) + 1)), (6, .int 1), (5, .int (((I [7, p, i] 5) - (X 4 i)) + 1)), (0, .ref (ga g [20])), (1, .int (nI c)), (2, .int (nI p)), (4, .int (nI i))]) hx hb dX7_daysLeft_118 rfl hl (by decide) rfl (fun ls hl => ?_)
                  refine lv_iinc (v := (nI (i + 1))) (lv' := [(4, .int (nI (i + 1))), (3, .int (((I [7, p, i] 5) - (X 4 i)) + 1)), (6, .int 1), (5, .int (((I [7, p, i] 5) - (X 4 i)) + 1)), (0, .ref (ga g [20])), (1, .int (nI c)), (2, .int (nI p))]) hx hb dX7_daysLeft_119 hl (k := 6) rfl (by first | rfl | exact nI_1 _ | exact nI_add _ _) (by decide) rfl (fun ls hl => ?_)
                  refine lv_goto (tgt := 22) hx hb dX7_daysLeft_122 (by decide) ?_
                  exact ih22 (i + 1) ((((I [7, p, i] 5) - (X 4 i)) + 1)) _ _ _ (by omega) (by show _ = if sAct (vP I p) X i = true ∧ 0 < sUnt (vP I p) X i ∧ ((sFew (vP I p) X i) = -1 ∨ sUnt (vP I p) X i < (sFew (vP I p) X i)) then sUnt (vP I p) X i else (sFew (vP I p) X i); rw [if_pos ⟨(by unfold sAct; rw [decide_eq_true (show vP I p i 0 = 116 from c_67), decide_eq_true c_81]; rfl), (show 0 < sUnt (vP I p) X i from i_nle c_86), Or.inr (show sUnt (vP I p) X i < (sFew (vP I p) X i) from hbb ▸ i_nle c_109)⟩]; rfl) (by omega) hH hS (lv_sub hl [4, 5, 6, 1, 0] rfl)
  exact L22 _ 0 ((-1)) _ _ _ (Nat.zero_le _) rfl (Nat.lt_succ_self _) hH hS (lv_sub hl [3, 4, 2, 1, 0] rfl)

set_option maxHeartbeats 1000000 in
set_option maxRecDepth 100000 in
theorem c_X7_holds (l : Launch) (g : xG) (h : xS) (I : xI) (n : Nat) (c : Nat) (X : xX) (m : Nat) (hm4 : m ≤ 4) (hm : I [20] 20 = nI m) (hc : c < m) (p : Nat) (hpp : p < 3) (hpo : I [24, 11] c = nI p) (hA : mA h I p) (hW : xWp h I p) (q : Nat) (hq : q ≤ 3) (hz : I [20] 10 = nI q) (hp : p < q) (j : Nat) (hj : j < sSz h p) (w k : Nat) (hw : w < 2) (hk : k < sCn h p j w) (f : Int32) (hf : (f = 0 ∧ w = 1) ∨ (¬ f = 0 ∧ w = 0))  : xM l yX7_holds (xws yX7_holds cX7_holds 6 (some FieldType.boolean)) 6 121 g [.ref (ga g [20]), .int (nI c), .int (nI j), .int f, .int (nI k)] (xR g (xD h) (mW I c X) (xFh h) n) (some (.int (b01 (sMet (I [10, p, j, w, k]) X)))) (xR g (xD h) (mW (up I [20] 23 0) c X) (xFh h) n) 0 0 := by
  refine xM.of (by decide) (Nat.le_of_ble_eq_true rfl) ?_
  intro P_ e_ s m_ bl_ mt_ cd_ ls hx hb hr hown hlocks hml hnm hE hK hts hH hS hl
  have hl : lv_has ls 6 [(0, .ref (ga g [20])), (1, .int (nI c)), (2, .int (nI j)), (3, .int f), (4, .int (nI k))] := hl
  have h8 := hW.1
  have hc4 : c < 4 := by omega
  rcases hf with ⟨hf, hw1⟩ | ⟨hf, hw1⟩ <;> subst hw1
  · skip
    refine lv_aload_n hx hb dX7_holds_0 rfl (lv_at hl 0 rfl) ?_
    refine lv_iload_n hx hb dX7_holds_1 rfl (lv_at hl 1 rfl) ?_
    refine lv_iload_n hx hb dX7_holds_2 rfl (lv_at hl 2 rfl) ?_
    refine x_V1 hx hb hml hown hE hS hl.1 cyX7_lacks tw1060 (c_X7_lacks_0 l g h (mW I c X) n q hq (by rw [mW_20 _ _ _ (by decide)]; exact hz) p hp (sSz h p) h8 hA.1 m hm4 (by rw [mW_20 _ _ _ (by decide)]; exact hm) c hc hpo j hj) ⟨Nat.le_of_ble_eq_true rfl, Nat.le_of_ble_eq_true rfl⟩ ⟨Nat.le_of_ble_eq_true rfl, Nat.le_of_ble_eq_true rfl⟩ (x_recv hK hH (id := [20]) (by first | trivial | (simp only [xD]; omega) | (simp [xD]; done) | (simp [xD]; omega)) (ci := 7) rfl (by decide) rfl) hH rfl rfl (Nat.le_of_ble_eq_true rfl) dX7_holds_3 (fun H locs hH hS => ?_)
    obtain ⟨I1_, hI1_⟩ : ∃ z, z = up I [20] 23 0 := ⟨_, rfl⟩
    rw [mW_u20 _ _ _ _ (by decide), ← hI1_] at hH
    have hsm : ∀ id, pK id = true → I1_ id = I id := by rw [hI1_]; exact pK_20 I 23 _
    have hpo1 : I1_ [24, 11] c = nI p := by rw [hI1_]; exact hpo
    have hA1 := hA.same hsm
    have hW1 := hW.same hsm
    have e1 := vP_same hsm p
    have e2 := vC_same hsm p
    refine lv_if_eq (tgt := 11) hx hb dX7_holds_6 (by decide) (fun _ => ?_) (fun q_ => absurd (by decide) q_)
    refine lv_iload_n hx hb dX7_holds_11 rfl (lv_at hl 3 rfl) ?_
    refine lv_if_eq (tgt := 19) hx hb dX7_holds_12 (by decide) (fun _ => ?_) (fun q_ => absurd hf q_)
    refine lv_iconst (v := 1) hx hb dX7_holds_19 (by decide) ?_
    refine lv_istore (lv' := [(5, .int 1), (0, .ref (ga g [20])), (1, .int (nI c)), (2, .int (nI j)), (3, .int f), (4, .int (nI k))]) hx hb dX7_holds_20 hl (by decide) rfl (fun ls hl => ?_)
    refine lv_aload_n hx hb dX7_holds_22 rfl (lv_at hl 1 rfl) ?_
    refine lv_iload hx hb dX7_holds_23 (lv_at hl 5 rfl) ?_
    refine lv_iconst (v := 0) hx hb dX7_holds_25 (by decide) ?_
    refine lv_aload_n hx hb dX7_holds_26 rfl (lv_at hl 1 rfl) ?_
    refine x_get (C := RX7) (T := TX7) (N := 24) (ci := 7) hx hb hts iu7 hown hK hH (id := [20]) (by first | trivial | (simp only [xD]; omega) | (simp [xD]; done) | (simp [xD]; omega)) rfl rfl (by decide) 7 (by decide) (hts _ tw846) (fun _ h9 => h9) rfl (v := .ref (ga g [21, 7])) rfl dX7_holds_27 ?_
    refine lv_aload_n hx hb dX7_holds_30 rfl (lv_at hl 1 rfl) ?_
    refine x_get (C := RX7) (T := TX7) (N := 24) (ci := 7) hx hb hts iu7 hown hK hH (id := [20]) (by first | trivial | (simp only [xD]; omega) | (simp [xD]; done) | (simp [xD]; omega)) rfl rfl (by decide) 11 (by decide) (hts _ tw850) (fun _ h9 => h9) rfl (v := .ref (ga g [24, 11])) rfl dX7_holds_31 ?_
    refine lv_iload_n hx hb dX7_holds_34 rfl (lv_at hl 2 rfl) ?_
    refine x_iald hx hb hK hH (id := [24, 11]) (by first | trivial | (simp only [xD]; omega) | (simp [xD]; done) | (simp [xD]; omega)) (L := 4) rfl (r := (I1_ [24, 11])) rfl c rfl (by omega) (by decide) dX7_holds_35 ?_
    rw [show (I1_ [24, 11] c) = (nI p) from hpo1]
    refine x_aald hx hb hK hH (id := [21, 7]) (by first | trivial | (simp only [xD]; omega) | (simp [xD]; done) | (simp [xD]; omega)) 10 (L := 3) rfl (by decide) p rfl (by omega) (by decide) (v := .ref (ga g [22, 7, p])) (by show rq _ (if _ then _ else _) = _; rw [if_pos (show p < xLn 7 by show _ < 3; omega)]; rfl) dX7_holds_36 ?_
    refine lv_iload_n hx hb dX7_holds_37 rfl (lv_at hl 3 rfl) ?_
    refine x_aald hx hb hK hH (id := [22, 7, p]) (by first | trivial | (simp only [xD]; omega) | (simp [xD]; done) | (simp [xD]; omega)) 7 (L := 8) rfl (by decide) j rfl (by omega) (by decide) (v := .ref (ga g [23, 7, p, j])) (by show rq _ (if _ then _ else _) = _; rw [if_pos (by omega)]; rfl) dX7_holds_38 ?_
    refine lv_iload hx hb dX7_holds_39 (lv_at hl 0 rfl) ?_
    refine x_iald hx hb hK hH (id := [23, 7, p, j]) (by first | trivial | (simp only [xD]; omega) | (simp [xD]; done) | (simp [xD]; omega)) (L := 2) rfl (r := (I1_ [23, 7, p, j])) rfl 1 (by rfl) (by omega) (by decide) dX7_holds_41 ?_
    rw [show (I1_ [23, 7, p, j] 1) = (nI (sCn h p j 1)) from ((hA1.2 j (by omega)).2.2.2.2.2 1 (by decide)).1]
    refine lv_iconst (v := 1) hx hb dX7_holds_42 (by decide) ?_
    refine lv_isub hx hb dX7_holds_43 ?_
    refine x_S1 hx hb hml hown hE hS hl.1 cyX7_in tw933 (c_X7_in l g h (mW I1_ c X) n (nI k) 0 ((nI (sCn h p j 1)) - 1)) ⟨Nat.le_of_ble_eq_true rfl, Nat.le_of_ble_eq_true rfl⟩ ⟨Nat.le_of_ble_eq_true rfl, Nat.le_of_ble_eq_true rfl⟩ hH rfl rfl (Nat.le_of_ble_eq_true rfl) dX7_holds_44 (fun H locs hH hS => ?_)
    refine lv_if_eq (tgt := 54) hx hb dX7_holds_47 (by decide) (fun q_ => absurd q_ (fun z_ => by have z2 := (b01_eq0 _).mp z_; rw [show mIn (nI k) 0 ((nI (sCn h p j 1)) - 1) = true from (by rw [mIn_sIn (by have := ((hW.2.2.2 j hj).2.2 1 (by decide)).2.1; omega)]; exact sIn_nI hk (by have := ((hW.2.2.2 j hj).2.2 1 (by decide)).2.1; omega))] at z2; cases z2)) (fun _ => ?_)
    refine lv_iconst (v := 0) hx hb dX7_holds_50 (by decide) ?_
    refine lv_goto (tgt := 55) hx hb dX7_holds_51 (by decide) ?_
    obtain ⟨I2_, hI2_⟩ : ∃ z, z = up I1_ [20] 23 0 := ⟨_, rfl⟩
    refine x_put (C := RX7) (T := TX7) (N := 24) (ci := 7) hx hb hts iu7 tyX7 tyX7_ok nmX7 hown hK hH hS (id := [20]) (by first | trivial | (simp only [xD]; omega) | (simp [xD]; done) | (simp [xD]; omega)) rfl rfl (by decide) 23 (by decide) (hts _ tw862) (fun _ h9 => h9) (Or.inl rfl) (ty := .int) (v := .int 0) (by decide +kernel) rfl rfl (I' := (mW I2_ c X)) (F' := (xFh h)) (fun i hi => by rw [show (mW I2_ c X) = _ from Eq.symm ((mW_u20 _ _ _ _ (by decide)).trans (congrArg (fun z => mW z c X) hI2_.symm))]; exact up_id hi) (fun _ _ => rfl) (fun j9 => by rw [show (mW I2_ c X) = _ from Eq.symm ((mW_u20 _ _ _ _ (by decide)).trans (congrArg (fun z => mW z c X) hI2_.symm)), up_row]; exact xv_upd rfl j9) dX7_holds_55 (fun H locs hH hS => ?_)
    refine lv_aload_n hx hb dX7_holds_58 rfl (lv_at hl 1 rfl) ?_
    refine x_get (C := RX7) (T := TX7) (N := 24) (ci := 7) hx hb hts iu7 hown hK hH (id := [20]) (by first | trivial | (simp only [xD]; omega) | (simp [xD]; done) | (simp [xD]; omega)) rfl rfl (by decide) 23 (by decide) (hts _ tw862) (fun _ h9 => h9) rfl (v := .int 0) (congrArg Value.int ((mW_20 _ _ _ (by decide)).trans (by rw [hI2_]; exact up_at))) dX7_holds_59 ?_
    refine lv_if_ne (tgt := 85) hx hb dX7_holds_62 (by decide) (fun q_ => absurd q_ (fun z_ => z_ ((nI_eq (a := 0) (b := 0) (by omega) (by omega)).mpr (by omega)))) (fun _ => ?_)
    refine lv_aload_n hx hb dX7_holds_65 rfl (lv_at hl 1 rfl) ?_
    refine lv_iload_n hx hb dX7_holds_66 rfl (lv_at hl 2 rfl) ?_
    refine lv_iload_n hx hb dX7_holds_67 rfl (lv_at hl 3 rfl) ?_
    refine lv_iconst (v := 3) hx hb dX7_holds_68 (by decide) ?_
    refine lv_iload hx hb dX7_holds_69 (lv_at hl 0 rfl) ?_
    refine lv_imul hx hb dX7_holds_71 ?_
    refine lv_iload hx hb dX7_holds_72 (lv_at hl 5 rfl) ?_
    refine lv_iadd hx hb dX7_holds_74 ?_
    rw [show ((3 * 1) + (nI k)) = (nI (3 * 1 + k)) from (mIx (by decide) k)]
    have hsm2 : ∀ id, pK id = true → I2_ id = I1_ id := by rw [hI2_]; exact pK_20 I1_ 23 _
    have hpo2 : I2_ [24, 11] c = nI p := by rw [hI2_]; exact hpo1
    have hA2 := hA1.same hsm2
    have hW2 := hW1.same hsm2
    have e3 := vC_same hsm2 p
    refine x_V1 hx hb hml hown hE hS hl.1 cyX7_holdsNow tw996 (c_X7_holdsNow l g h I2_ n c X hc4 p hpp hpo2 hA2 hW2 j hj 1 k (by decide) hk) ⟨Nat.le_of_ble_eq_true rfl, Nat.le_of_ble_eq_true rfl⟩ ⟨Nat.le_of_ble_eq_true rfl, Nat.le_of_ble_eq_true rfl⟩ (x_recv hK hH (id := [20]) (by first | trivial | (simp only [xD]; omega) | (simp [xD]; done) | (simp [xD]; omega)) (ci := 7) rfl (by decide) rfl) hH rfl rfl (Nat.le_of_ble_eq_true rfl) dX7_holds_75 (fun H locs hH hS => ?_)
    rw [show sMet (I2_ [10, p, j, 1, k]) X = sMet (I [10, p, j, 1, k]) X from by rw [hsm2 _ rfl, hsm _ rfl]]
    refine lv_if_eq (tgt := 85) hx hb dX7_holds_78 (by decide) (fun c_78 => ?_) (fun c_78 => ?_)
    · skip
      refine lv_iconst (v := 0) hx hb dX7_holds_85 (by decide) ?_
      exact x_zret hx hb hr hlocks hS dX7_holds_86 rfl (b01_f ((b01_eq0 _).mp c_78)) (by rw [hI2_, hI1_, up_up] at hH; exact hH)
    · skip
      refine lv_iconst (v := 1) hx hb dX7_holds_81 (by decide) ?_
      refine lv_goto (tgt := 86) hx hb dX7_holds_82 (by decide) ?_
      exact x_zret hx hb hr hlocks hS dX7_holds_86 rfl (b01_t (b01_ne0 c_78)) (by rw [hI2_, hI1_, up_up] at hH; exact hH)
  · skip
    refine lv_aload_n hx hb dX7_holds_0 rfl (lv_at hl 0 rfl) ?_
    refine lv_iload_n hx hb dX7_holds_1 rfl (lv_at hl 1 rfl) ?_
    refine lv_iload_n hx hb dX7_holds_2 rfl (lv_at hl 2 rfl) ?_
    refine x_V1 hx hb hml hown hE hS hl.1 cyX7_lacks tw1060 (c_X7_lacks_0 l g h (mW I c X) n q hq (by rw [mW_20 _ _ _ (by decide)]; exact hz) p hp (sSz h p) h8 hA.1 m hm4 (by rw [mW_20 _ _ _ (by decide)]; exact hm) c hc hpo j hj) ⟨Nat.le_of_ble_eq_true rfl, Nat.le_of_ble_eq_true rfl⟩ ⟨Nat.le_of_ble_eq_true rfl, Nat.le_of_ble_eq_true rfl⟩ (x_recv hK hH (id := [20]) (by first | trivial | (simp only [xD]; omega) | (simp [xD]; done) | (simp [xD]; omega)) (ci := 7) rfl (by decide) rfl) hH rfl rfl (Nat.le_of_ble_eq_true rfl) dX7_holds_3 (fun H locs hH hS => ?_)
    obtain ⟨I1_, hI1_⟩ : ∃ z, z = up I [20] 23 0 := ⟨_, rfl⟩
    rw [mW_u20 _ _ _ _ (by decide), ← hI1_] at hH
    have hsm : ∀ id, pK id = true → I1_ id = I id := by rw [hI1_]; exact pK_20 I 23 _
    have hpo1 : I1_ [24, 11] c = nI p := by rw [hI1_]; exact hpo
    have hA1 := hA.same hsm
    have hW1 := hW.same hsm
    have e1 := vP_same hsm p
    have e2 := vC_same hsm p
    refine lv_if_eq (tgt := 11) hx hb dX7_holds_6 (by decide) (fun _ => ?_) (fun q_ => absurd (by decide) q_)
    refine lv_iload_n hx hb dX7_holds_11 rfl (lv_at hl 3 rfl) ?_
    refine lv_if_eq (tgt := 19) hx hb dX7_holds_12 (by decide) (fun q_ => absurd q_ hf) (fun _ => ?_)
    refine lv_iconst (v := 0) hx hb dX7_holds_15 (by decide) ?_
    refine lv_goto (tgt := 20) hx hb dX7_holds_16 (by decide) ?_
    refine lv_istore (lv' := [(5, .int 0), (0, .ref (ga g [20])), (1, .int (nI c)), (2, .int (nI j)), (3, .int f), (4, .int (nI k))]) hx hb dX7_holds_20 hl (by decide) rfl (fun ls hl => ?_)
    refine lv_aload_n hx hb dX7_holds_22 rfl (lv_at hl 1 rfl) ?_
    refine lv_iload hx hb dX7_holds_23 (lv_at hl 5 rfl) ?_
    refine lv_iconst (v := 0) hx hb dX7_holds_25 (by decide) ?_
    refine lv_aload_n hx hb dX7_holds_26 rfl (lv_at hl 1 rfl) ?_
    refine x_get (C := RX7) (T := TX7) (N := 24) (ci := 7) hx hb hts iu7 hown hK hH (id := [20]) (by first | trivial | (simp only [xD]; omega) | (simp [xD]; done) | (simp [xD]; omega)) rfl rfl (by decide) 7 (by decide) (hts _ tw846) (fun _ h9 => h9) rfl (v := .ref (ga g [21, 7])) rfl dX7_holds_27 ?_
    refine lv_aload_n hx hb dX7_holds_30 rfl (lv_at hl 1 rfl) ?_
    refine x_get (C := RX7) (T := TX7) (N := 24) (ci := 7) hx hb hts iu7 hown hK hH (id := [20]) (by first | trivial | (simp only [xD]; omega) | (simp [xD]; done) | (simp [xD]; omega)) rfl rfl (by decide) 11 (by decide) (hts _ tw850) (fun _ h9 => h9) rfl (v := .ref (ga g [24, 11])) rfl dX7_holds_31 ?_
    refine lv_iload_n hx hb dX7_holds_34 rfl (lv_at hl 2 rfl) ?_
    refine x_iald hx hb hK hH (id := [24, 11]) (by first | trivial | (simp only [xD]; omega) | (simp [xD]; done) | (simp [xD]; omega)) (L := 4) rfl (r := (I1_ [24, 11])) rfl c rfl (by omega) (by decide) dX7_holds_35 ?_
    rw [show (I1_ [24, 11] c) = (nI p) from hpo1]
    refine x_aald hx hb hK hH (id := [21, 7]) (by first | trivial | (simp only [xD]; omega) | (simp [xD]; done) | (simp [xD]; omega)) 10 (L := 3) rfl (by decide) p rfl (by omega) (by decide) (v := .ref (ga g [22, 7, p])) (by show rq _ (if _ then _ else _) = _; rw [if_pos (show p < xLn 7 by show _ < 3; omega)]; rfl) dX7_holds_36 ?_
    refine lv_iload_n hx hb dX7_holds_37 rfl (lv_at hl 3 rfl) ?_
    refine x_aald hx hb hK hH (id := [22, 7, p]) (by first | trivial | (simp only [xD]; omega) | (simp [xD]; done) | (simp [xD]; omega)) 7 (L := 8) rfl (by decide) j rfl (by omega) (by decide) (v := .ref (ga g [23, 7, p, j])) (by show rq _ (if _ then _ else _) = _; rw [if_pos (by omega)]; rfl) dX7_holds_38 ?_
    refine lv_iload hx hb dX7_holds_39 (lv_at hl 0 rfl) ?_
    refine x_iald hx hb hK hH (id := [23, 7, p, j]) (by first | trivial | (simp only [xD]; omega) | (simp [xD]; done) | (simp [xD]; omega)) (L := 2) rfl (r := (I1_ [23, 7, p, j])) rfl 0 (by rfl) (by omega) (by decide) dX7_holds_41 ?_
    rw [show (I1_ [23, 7, p, j] 0) = (nI (sCn h p j 0)) from ((hA1.2 j (by omega)).2.2.2.2.2 0 (by decide)).1]
    refine lv_iconst (v := 1) hx hb dX7_holds_42 (by decide) ?_
    refine lv_isub hx hb dX7_holds_43 ?_
    refine x_S1 hx hb hml hown hE hS hl.1 cyX7_in tw933 (c_X7_in l g h (mW I1_ c X) n (nI k) 0 ((nI (sCn h p j 0)) - 1)) ⟨Nat.le_of_ble_eq_true rfl, Nat.le_of_ble_eq_true rfl⟩ ⟨Nat.le_of_ble_eq_true rfl, Nat.le_of_ble_eq_true rfl⟩ hH rfl rfl (Nat.le_of_ble_eq_true rfl) dX7_holds_44 (fun H locs hH hS => ?_)
    refine lv_if_eq (tgt := 54) hx hb dX7_holds_47 (by decide) (fun q_ => absurd q_ (fun z_ => by have z2 := (b01_eq0 _).mp z_; rw [show mIn (nI k) 0 ((nI (sCn h p j 0)) - 1) = true from (by rw [mIn_sIn (by have := ((hW.2.2.2 j hj).2.2 0 (by decide)).2.1; omega)]; exact sIn_nI hk (by have := ((hW.2.2.2 j hj).2.2 0 (by decide)).2.1; omega))] at z2; cases z2)) (fun _ => ?_)
    refine lv_iconst (v := 0) hx hb dX7_holds_50 (by decide) ?_
    refine lv_goto (tgt := 55) hx hb dX7_holds_51 (by decide) ?_
    obtain ⟨I2_, hI2_⟩ : ∃ z, z = up I1_ [20] 23 0 := ⟨_, rfl⟩
    refine x_put (C := RX7) (T := TX7) (N := 24) (ci := 7) hx hb hts iu7 tyX7 tyX7_ok nmX7 hown hK hH hS (id := [20]) (by first | trivial | (simp only [xD]; omega) | (simp [xD]; done) | (simp [xD]; omega)) rfl rfl (by decide) 23 (by decide) (hts _ tw862) (fun _ h9 => h9) (Or.inl rfl) (ty := .int) (v := .int 0) (by decide +kernel) rfl rfl (I' := (mW I2_ c X)) (F' := (xFh h)) (fun i hi => by rw [show (mW I2_ c X) = _ from Eq.symm ((mW_u20 _ _ _ _ (by decide)).trans (congrArg (fun z => mW z c X) hI2_.symm))]; exact up_id hi) (fun _ _ => rfl) (fun j9 => by rw [show (mW I2_ c X) = _ from Eq.symm ((mW_u20 _ _ _ _ (by decide)).trans (congrArg (fun z => mW z c X) hI2_.symm)), up_row]; exact xv_upd rfl j9) dX7_holds_55 (fun H locs hH hS => ?_)
    refine lv_aload_n hx hb dX7_holds_58 rfl (lv_at hl 1 rfl) ?_
    refine x_get (C := RX7) (T := TX7) (N := 24) (ci := 7) hx hb hts iu7 hown hK hH (id := [20]) (by first | trivial | (simp only [xD]; omega) | (simp [xD]; done) | (simp [xD]; omega)) rfl rfl (by decide) 23 (by decide) (hts _ tw862) (fun _ h9 => h9) rfl (v := .int 0) (congrArg Value.int ((mW_20 _ _ _ (by decide)).trans (by rw [hI2_]; exact up_at))) dX7_holds_59 ?_
    refine lv_if_ne (tgt := 85) hx hb dX7_holds_62 (by decide) (fun q_ => absurd q_ (fun z_ => z_ ((nI_eq (a := 0) (b := 0) (by omega) (by omega)).mpr (by omega)))) (fun _ => ?_)
    refine lv_aload_n hx hb dX7_holds_65 rfl (lv_at hl 1 rfl) ?_
    refine lv_iload_n hx hb dX7_holds_66 rfl (lv_at hl 2 rfl) ?_
    refine lv_iload_n hx hb dX7_holds_67 rfl (lv_at hl 3 rfl) ?_
    refine lv_iconst (v := 3) hx hb dX7_holds_68 (by decide) ?_
    refine lv_iload hx hb dX7_holds_69 (lv_at hl 0 rfl) ?_
    refine lv_imul hx hb dX7_holds_71 ?_
    refine lv_iload hx hb dX7_holds_72 (lv_at hl 5 rfl) ?_
    refine lv_iadd hx hb dX7_holds_74 ?_
    rw [show ((3 * 0) + (nI k)) = (nI (3 * 0 + k)) from (mIx (by decide) k)]
    have hsm2 : ∀ id, pK id = true → I2_ id = I1_ id := by rw [hI2_]; exact pK_20 I1_ 23 _
    have hpo2 : I2_ [24, 11] c = nI p := by rw [hI2_]; exact hpo1
    have hA2 := hA1.same hsm2
    have hW2 := hW1.same hsm2
    have e3 := vC_same hsm2 p
    refine x_V1 hx hb hml hown hE hS hl.1 cyX7_holdsNow tw996 (c_X7_holdsNow l g h I2_ n c X hc4 p hpp hpo2 hA2 hW2 j hj 0 k (by decide) hk) ⟨Nat.le_of_ble_eq_true rfl, Nat.le_of_ble_eq_true rfl⟩ ⟨Nat.le_of_ble_eq_true rfl, Nat.le_of_ble_eq_true rfl⟩ (x_recv hK hH (id := [20]) (by first | trivial | (simp only [xD]; omega) | (simp [xD]; done) | (simp [xD]; omega)) (ci := 7) rfl (by decide) rfl) hH rfl rfl (Nat.le_of_ble_eq_true rfl) dX7_holds_75 (fun H locs hH hS => ?_)
    rw [show sMet (I2_ [10, p, j, 0, k]) X = sMet (I [10, p, j, 0, k]) X from by rw [hsm2 _ rfl, hsm _ rfl]]
    refine lv_if_eq (tgt := 85) hx hb dX7_holds_78 (by decide) (fun c_78 => ?_) (fun c_78 => ?_)
    · skip
      refine lv_iconst (v := 0) hx hb dX7_holds_85 (by decide) ?_
      exact x_zret hx hb hr hlocks hS dX7_holds_86 rfl (b01_f ((b01_eq0 _).mp c_78)) (by rw [hI2_, hI1_, up_up] at hH; exact hH)
    · skip
      refine lv_iconst (v := 1) hx hb dX7_holds_81 (by decide) ?_
      refine lv_goto (tgt := 86) hx hb dX7_holds_82 (by decide) ?_
      exact x_zret hx hb hr hlocks hS dX7_holds_86 rfl (b01_t (b01_ne0 c_78)) (by rw [hI2_, hI1_, up_up] at hH; exact hH)

set_option maxHeartbeats 1000000 in
set_option maxRecDepth 100000 in
theorem c_X7_holds_n (l : Launch) (g : xG) (h : xS) (I : xI) (n : Nat) (c : Nat) (X : xX) (m : Nat) (hm4 : m ≤ 4) (hm : I [20] 20 = nI m) (hc : c < m) (p : Nat) (hpp : p < 3) (hpo : I [24, 11] c = nI p) (hA : mA h I p) (hW : xWp h I p) (q : Nat) (hq : q ≤ 3) (hz : I [20] 10 = nI q) (hp : p < q) (j : Nat) (hj : j < sSz h p) (w : Nat) (hw : w < 2) (x : Int32) (hx0 : sIn x 0 (nI (sCn h p j w)) = false) (f : Int32) (hf : (f = 0 ∧ w = 1) ∨ (¬ f = 0 ∧ w = 0))  : xM l yX7_holds (xws yX7_holds cX7_holds 6 (some FieldType.boolean)) 6 121 g [.ref (ga g [20]), .int (nI c), .int (nI j), .int f, .int x] (xR g (xD h) (mW I c X) (xFh h) n) (some (.int 0)) (xR g (xD h) (mW (up I [20] 23 2) c X) (xFh h) n) 0 0 := by
  refine xM.of (by decide) (Nat.le_of_ble_eq_true rfl) ?_
  intro P_ e_ s m_ bl_ mt_ cd_ ls hx hb hr hown hlocks hml hnm hE hK hts hH hS hl
  have hl : lv_has ls 6 [(0, .ref (ga g [20])), (1, .int (nI c)), (2, .int (nI j)), (3, .int f), (4, .int x)] := hl
  have h8 := hW.1
  have hc4 : c < 4 := by omega
  rcases hf with ⟨hf, hw1⟩ | ⟨hf, hw1⟩ <;> subst hw1
  · skip
    refine lv_aload_n hx hb dX7_holds_0 rfl (lv_at hl 0 rfl) ?_
    refine lv_iload_n hx hb dX7_holds_1 rfl (lv_at hl 1 rfl) ?_
    refine lv_iload_n hx hb dX7_holds_2 rfl (lv_at hl 2 rfl) ?_
    refine x_V1 hx hb hml hown hE hS hl.1 cyX7_lacks tw1060 (c_X7_lacks_0 l g h (mW I c X) n q hq (by rw [mW_20 _ _ _ (by decide)]; exact hz) p hp (sSz h p) h8 hA.1 m hm4 (by rw [mW_20 _ _ _ (by decide)]; exact hm) c hc hpo j hj) ⟨Nat.le_of_ble_eq_true rfl, Nat.le_of_ble_eq_true rfl⟩ ⟨Nat.le_of_ble_eq_true rfl, Nat.le_of_ble_eq_true rfl⟩ (x_recv hK hH (id := [20]) (by first | trivial | (simp only [xD]; omega) | (simp [xD]; done) | (simp [xD]; omega)) (ci := 7) rfl (by decide) rfl) hH rfl rfl (Nat.le_of_ble_eq_true rfl) dX7_holds_3 (fun H locs hH hS => ?_)
    obtain ⟨I1_, hI1_⟩ : ∃ z, z = up I [20] 23 0 := ⟨_, rfl⟩
    rw [mW_u20 _ _ _ _ (by decide), ← hI1_] at hH
    have hsm : ∀ id, pK id = true → I1_ id = I id := by rw [hI1_]; exact pK_20 I 23 _
    have hpo1 : I1_ [24, 11] c = nI p := by rw [hI1_]; exact hpo
    have hA1 := hA.same hsm
    have hW1 := hW.same hsm
    have e1 := vP_same hsm p
    have e2 := vC_same hsm p
    refine lv_if_eq (tgt := 11) hx hb dX7_holds_6 (by decide) (fun _ => ?_) (fun q_ => absurd (by decide) q_)
    refine lv_iload_n hx hb dX7_holds_11 rfl (lv_at hl 3 rfl) ?_
    refine lv_if_eq (tgt := 19) hx hb dX7_holds_12 (by decide) (fun _ => ?_) (fun q_ => absurd hf q_)
    refine lv_iconst (v := 1) hx hb dX7_holds_19 (by decide) ?_
    refine lv_istore (lv' := [(5, .int 1), (0, .ref (ga g [20])), (1, .int (nI c)), (2, .int (nI j)), (3, .int f), (4, .int x)]) hx hb dX7_holds_20 hl (by decide) rfl (fun ls hl => ?_)
    refine lv_aload_n hx hb dX7_holds_22 rfl (lv_at hl 1 rfl) ?_
    refine lv_iload hx hb dX7_holds_23 (lv_at hl 5 rfl) ?_
    refine lv_iconst (v := 0) hx hb dX7_holds_25 (by decide) ?_
    refine lv_aload_n hx hb dX7_holds_26 rfl (lv_at hl 1 rfl) ?_
    refine x_get (C := RX7) (T := TX7) (N := 24) (ci := 7) hx hb hts iu7 hown hK hH (id := [20]) (by first | trivial | (simp only [xD]; omega) | (simp [xD]; done) | (simp [xD]; omega)) rfl rfl (by decide) 7 (by decide) (hts _ tw846) (fun _ h9 => h9) rfl (v := .ref (ga g [21, 7])) rfl dX7_holds_27 ?_
    refine lv_aload_n hx hb dX7_holds_30 rfl (lv_at hl 1 rfl) ?_
    refine x_get (C := RX7) (T := TX7) (N := 24) (ci := 7) hx hb hts iu7 hown hK hH (id := [20]) (by first | trivial | (simp only [xD]; omega) | (simp [xD]; done) | (simp [xD]; omega)) rfl rfl (by decide) 11 (by decide) (hts _ tw850) (fun _ h9 => h9) rfl (v := .ref (ga g [24, 11])) rfl dX7_holds_31 ?_
    refine lv_iload_n hx hb dX7_holds_34 rfl (lv_at hl 2 rfl) ?_
    refine x_iald hx hb hK hH (id := [24, 11]) (by first | trivial | (simp only [xD]; omega) | (simp [xD]; done) | (simp [xD]; omega)) (L := 4) rfl (r := (I1_ [24, 11])) rfl c rfl (by omega) (by decide) dX7_holds_35 ?_
    rw [show (I1_ [24, 11] c) = (nI p) from hpo1]
    refine x_aald hx hb hK hH (id := [21, 7]) (by first | trivial | (simp only [xD]; omega) | (simp [xD]; done) | (simp [xD]; omega)) 10 (L := 3) rfl (by decide) p rfl (by omega) (by decide) (v := .ref (ga g [22, 7, p])) (by show rq _ (if _ then _ else _) = _; rw [if_pos (show p < xLn 7 by show _ < 3; omega)]; rfl) dX7_holds_36 ?_
    refine lv_iload_n hx hb dX7_holds_37 rfl (lv_at hl 3 rfl) ?_
    refine x_aald hx hb hK hH (id := [22, 7, p]) (by first | trivial | (simp only [xD]; omega) | (simp [xD]; done) | (simp [xD]; omega)) 7 (L := 8) rfl (by decide) j rfl (by omega) (by decide) (v := .ref (ga g [23, 7, p, j])) (by show rq _ (if _ then _ else _) = _; rw [if_pos (by omega)]; rfl) dX7_holds_38 ?_
    refine lv_iload hx hb dX7_holds_39 (lv_at hl 0 rfl) ?_
    refine x_iald hx hb hK hH (id := [23, 7, p, j]) (by first | trivial | (simp only [xD]; omega) | (simp [xD]; done) | (simp [xD]; omega)) (L := 2) rfl (r := (I1_ [23, 7, p, j])) rfl 1 (by rfl) (by omega) (by decide) dX7_holds_41 ?_
    rw [show (I1_ [23, 7, p, j] 1) = (nI (sCn h p j 1)) from ((hA1.2 j (by omega)).2.2.2.2.2 1 (by decide)).1]
    refine lv_iconst (v := 1) hx hb dX7_holds_42 (by decide) ?_
    refine lv_isub hx hb dX7_holds_43 ?_
    refine x_S1 hx hb hml hown hE hS hl.1 cyX7_in tw933 (c_X7_in l g h (mW I1_ c X) n x 0 ((nI (sCn h p j 1)) - 1)) ⟨Nat.le_of_ble_eq_true rfl, Nat.le_of_ble_eq_true rfl⟩ ⟨Nat.le_of_ble_eq_true rfl, Nat.le_of_ble_eq_true rfl⟩ hH rfl rfl (Nat.le_of_ble_eq_true rfl) dX7_holds_44 (fun H locs hH hS => ?_)
    refine lv_if_eq (tgt := 54) hx hb dX7_holds_47 (by decide) (fun _ => ?_) (fun q_ => absurd ((b01_eq0 _).mpr (by rw [mIn_sIn (by have := ((hW.2.2.2 j hj).2.2 1 (by decide)).2.1; omega)]; exact hx0)) q_)
    refine lv_iconst (v := 2) hx hb dX7_holds_54 (by decide) ?_
    obtain ⟨I2_, hI2_⟩ : ∃ z, z = up I1_ [20] 23 2 := ⟨_, rfl⟩
    refine x_put (C := RX7) (T := TX7) (N := 24) (ci := 7) hx hb hts iu7 tyX7 tyX7_ok nmX7 hown hK hH hS (id := [20]) (by first | trivial | (simp only [xD]; omega) | (simp [xD]; done) | (simp [xD]; omega)) rfl rfl (by decide) 23 (by decide) (hts _ tw862) (fun _ h9 => h9) (Or.inl rfl) (ty := .int) (v := .int 2) (by decide +kernel) rfl rfl (I' := (mW I2_ c X)) (F' := (xFh h)) (fun i hi => by rw [show (mW I2_ c X) = _ from Eq.symm ((mW_u20 _ _ _ _ (by decide)).trans (congrArg (fun z => mW z c X) hI2_.symm))]; exact up_id hi) (fun _ _ => rfl) (fun j9 => by rw [show (mW I2_ c X) = _ from Eq.symm ((mW_u20 _ _ _ _ (by decide)).trans (congrArg (fun z => mW z c X) hI2_.symm)), up_row]; exact xv_upd rfl j9) dX7_holds_55 (fun H locs hH hS => ?_)
    refine lv_aload_n hx hb dX7_holds_58 rfl (lv_at hl 1 rfl) ?_
    refine x_get (C := RX7) (T := TX7) (N := 24) (ci := 7) hx hb hts iu7 hown hK hH (id := [20]) (by first | trivial | (simp only [xD]; omega) | (simp [xD]; done) | (simp [xD]; omega)) rfl rfl (by decide) 23 (by decide) (hts _ tw862) (fun _ h9 => h9) rfl (v := .int 2) (congrArg Value.int ((mW_20 _ _ _ (by decide)).trans (by rw [hI2_]; exact up_at))) dX7_holds_59 ?_
    refine lv_if_ne (tgt := 85) hx hb dX7_holds_62 (by decide) (fun _ => ?_) (fun q_ => absurd q_ (by decide))
    refine lv_iconst (v := 0) hx hb dX7_holds_85 (by decide) ?_
    exact x_zret hx hb hr hlocks hS dX7_holds_86 rfl rfl (by rw [hI2_, hI1_, up_up] at hH; exact hH)
  · skip
    refine lv_aload_n hx hb dX7_holds_0 rfl (lv_at hl 0 rfl) ?_
    refine lv_iload_n hx hb dX7_holds_1 rfl (lv_at hl 1 rfl) ?_
    refine lv_iload_n hx hb dX7_holds_2 rfl (lv_at hl 2 rfl) ?_
    refine x_V1 hx hb hml hown hE hS hl.1 cyX7_lacks tw1060 (c_X7_lacks_0 l g h (mW I c X) n q hq (by rw [mW_20 _ _ _ (by decide)]; exact hz) p hp (sSz h p) h8 hA.1 m hm4 (by rw [mW_20 _ _ _ (by decide)]; exact hm) c hc hpo j hj) ⟨Nat.le_of_ble_eq_true rfl, Nat.le_of_ble_eq_true rfl⟩ ⟨Nat.le_of_ble_eq_true rfl, Nat.le_of_ble_eq_true rfl⟩ (x_recv hK hH (id := [20]) (by first | trivial | (simp only [xD]; omega) | (simp [xD]; done) | (simp [xD]; omega)) (ci := 7) rfl (by decide) rfl) hH rfl rfl (Nat.le_of_ble_eq_true rfl) dX7_holds_3 (fun H locs hH hS => ?_)
    obtain ⟨I1_, hI1_⟩ : ∃ z, z = up I [20] 23 0 := ⟨_, rfl⟩
    rw [mW_u20 _ _ _ _ (by decide), ← hI1_] at hH
    have hsm : ∀ id, pK id = true → I1_ id = I id := by rw [hI1_]; exact pK_20 I 23 _
    have hpo1 : I1_ [24, 11] c = nI p := by rw [hI1_]; exact hpo
    have hA1 := hA.same hsm
    have hW1 := hW.same hsm
    have e1 := vP_same hsm p
    have e2 := vC_same hsm p
    refine lv_if_eq (tgt := 11) hx hb dX7_holds_6 (by decide) (fun _ => ?_) (fun q_ => absurd (by decide) q_)
    refine lv_iload_n hx hb dX7_holds_11 rfl (lv_at hl 3 rfl) ?_
    refine lv_if_eq (tgt := 19) hx hb dX7_holds_12 (by decide) (fun q_ => absurd q_ hf) (fun _ => ?_)
    refine lv_iconst (v := 0) hx hb dX7_holds_15 (by decide) ?_
    refine lv_goto (tgt := 20) hx hb dX7_holds_16 (by decide) ?_
    refine lv_istore (lv' := [(5, .int 0), (0, .ref (ga g [20])), (1, .int (nI c)), (2, .int (nI j)), (3, .int f), (4, .int x)]) hx hb dX7_holds_20 hl (by decide) rfl (fun ls hl => ?_)
    refine lv_aload_n hx hb dX7_holds_22 rfl (lv_at hl 1 rfl) ?_
    refine lv_iload hx hb dX7_holds_23 (lv_at hl 5 rfl) ?_
    refine lv_iconst (v := 0) hx hb dX7_holds_25 (by decide) ?_
    refine lv_aload_n hx hb dX7_holds_26 rfl (lv_at hl 1 rfl) ?_
    refine x_get (C := RX7) (T := TX7) (N := 24) (ci := 7) hx hb hts iu7 hown hK hH (id := [20]) (by first | trivial | (simp only [xD]; omega) | (simp [xD]; done) | (simp [xD]; omega)) rfl rfl (by decide) 7 (by decide) (hts _ tw846) (fun _ h9 => h9) rfl (v := .ref (ga g [21, 7])) rfl dX7_holds_27 ?_
    refine lv_aload_n hx hb dX7_holds_30 rfl (lv_at hl 1 rfl) ?_
    refine x_get (C := RX7) (T := TX7) (N := 24) (ci := 7) hx hb hts iu7 hown hK hH (id := [20]) (by first | trivial | (simp only [xD]; omega) | (simp [xD]; done) | (simp [xD]; omega)) rfl rfl (by decide) 11 (by decide) (hts _ tw850) (fun _ h9 => h9) rfl (v := .ref (ga g [24, 11])) rfl dX7_holds_31 ?_
    refine lv_iload_n hx hb dX7_holds_34 rfl (lv_at hl 2 rfl) ?_
    refine x_iald hx hb hK hH (id := [24, 11]) (by first | trivial | (simp only [xD]; omega) | (simp [xD]; done) | (simp [xD]; omega)) (L := 4) rfl (r := (I1_ [24, 11])) rfl c rfl (by omega) (by decide) dX7_holds_35 ?_
    rw [show (I1_ [24, 11] c) = (nI p) from hpo1]
    refine x_aald hx hb hK hH (id := [21, 7]) (by first | trivial | (simp only [xD]; omega) | (simp [xD]; done) | (simp [xD]; omega)) 10 (L := 3) rfl (by decide) p rfl (by omega) (by decide) (v := .ref (ga g [22, 7, p])) (by show rq _ (if _ then _ else _) = _; rw [if_pos (show p < xLn 7 by show _ < 3; omega)]; rfl) dX7_holds_36 ?_
    refine lv_iload_n hx hb dX7_holds_37 rfl (lv_at hl 3 rfl) ?_
    refine x_aald hx hb hK hH (id := [22, 7, p]) (by first | trivial | (simp only [xD]; omega) | (simp [xD]; done) | (simp [xD]; omega)) 7 (L := 8) rfl (by decide) j rfl (by omega) (by decide) (v := .ref (ga g [23, 7, p, j])) (by show rq _ (if _ then _ else _) = _; rw [if_pos (by omega)]; rfl) dX7_holds_38 ?_
    refine lv_iload hx hb dX7_holds_39 (lv_at hl 0 rfl) ?_
    refine x_iald hx hb hK hH (id := [23, 7, p, j]) (by first | trivial | (simp only [xD]; omega) | (simp [xD]; done) | (simp [xD]; omega)) (L := 2) rfl (r := (I1_ [23, 7, p, j])) rfl 0 (by rfl) (by omega) (by decide) dX7_holds_41 ?_
    rw [show (I1_ [23, 7, p, j] 0) = (nI (sCn h p j 0)) from ((hA1.2 j (by omega)).2.2.2.2.2 0 (by decide)).1]
    refine lv_iconst (v := 1) hx hb dX7_holds_42 (by decide) ?_
    refine lv_isub hx hb dX7_holds_43 ?_
    refine x_S1 hx hb hml hown hE hS hl.1 cyX7_in tw933 (c_X7_in l g h (mW I1_ c X) n x 0 ((nI (sCn h p j 0)) - 1)) ⟨Nat.le_of_ble_eq_true rfl, Nat.le_of_ble_eq_true rfl⟩ ⟨Nat.le_of_ble_eq_true rfl, Nat.le_of_ble_eq_true rfl⟩ hH rfl rfl (Nat.le_of_ble_eq_true rfl) dX7_holds_44 (fun H locs hH hS => ?_)
    refine lv_if_eq (tgt := 54) hx hb dX7_holds_47 (by decide) (fun _ => ?_) (fun q_ => absurd ((b01_eq0 _).mpr (by rw [mIn_sIn (by have := ((hW.2.2.2 j hj).2.2 0 (by decide)).2.1; omega)]; exact hx0)) q_)
    refine lv_iconst (v := 2) hx hb dX7_holds_54 (by decide) ?_
    obtain ⟨I2_, hI2_⟩ : ∃ z, z = up I1_ [20] 23 2 := ⟨_, rfl⟩
    refine x_put (C := RX7) (T := TX7) (N := 24) (ci := 7) hx hb hts iu7 tyX7 tyX7_ok nmX7 hown hK hH hS (id := [20]) (by first | trivial | (simp only [xD]; omega) | (simp [xD]; done) | (simp [xD]; omega)) rfl rfl (by decide) 23 (by decide) (hts _ tw862) (fun _ h9 => h9) (Or.inl rfl) (ty := .int) (v := .int 2) (by decide +kernel) rfl rfl (I' := (mW I2_ c X)) (F' := (xFh h)) (fun i hi => by rw [show (mW I2_ c X) = _ from Eq.symm ((mW_u20 _ _ _ _ (by decide)).trans (congrArg (fun z => mW z c X) hI2_.symm))]; exact up_id hi) (fun _ _ => rfl) (fun j9 => by rw [show (mW I2_ c X) = _ from Eq.symm ((mW_u20 _ _ _ _ (by decide)).trans (congrArg (fun z => mW z c X) hI2_.symm)), up_row]; exact xv_upd rfl j9) dX7_holds_55 (fun H locs hH hS => ?_)
    refine lv_aload_n hx hb dX7_holds_58 rfl (lv_at hl 1 rfl) ?_
    refine x_get (C := RX7) (T := TX7) (N := 24) (ci := 7) hx hb hts iu7 hown hK hH (id := [20]) (by first | trivial | (simp only [xD]; omega) | (simp [xD]; done) | (simp [xD]; omega)) rfl rfl (by decide) 23 (by decide) (hts _ tw862) (fun _ h9 => h9) rfl (v := .int 2) (congrArg Value.int ((mW_20 _ _ _ (by decide)).trans (by rw [hI2_]; exact up_at))) dX7_holds_59 ?_
    refine lv_if_ne (tgt := 85) hx hb dX7_holds_62 (by decide) (fun _ => ?_) (fun q_ => absurd q_ (by decide))
    refine lv_iconst (v := 0) hx hb dX7_holds_85 (by decide) ?_
    exact x_zret hx hb hr hlocks hS dX7_holds_86 rfl rfl (by rw [hI2_, hI1_, up_up] at hH; exact hH)
