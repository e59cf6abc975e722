/-! CONTRACTS: rounds, a day -/
theorem sFins_ch {P : Nat → Nat → Int32} {i0 : Nat} : ∀ (d : Nat) (s : (Nat → Int32) × (Nat → Bool)), (∀ k, narrow .char (.int (s.1 k)) = .int (s.1 k)) → ∀ k, narrow .char (.int ((sFins P i0 d s).1 k)) = .int ((sFins P i0 d s).1 k)
  | 0, s, h, k => h k
  | d + 1, s, h, k => by
    have ih := sFins_ch (P := P) (i0 := i0) d s h
    show narrow .char (.int ((sFin P (i0 + d) (sFins P i0 d s)).1 k)) = .int ((sFin P (i0 + d) (sFins P i0 d s)).1 k)
    unfold sFin
    split
    · show narrow .char (.int (if k = i0 + d then 120 else (sFins P i0 d s).1 k)) = .int (if k = i0 + d then 120 else (sFins P i0 d s).1 k)
      split
      · rfl
      · exact ih k
    · exact ih k
theorem xCh.fin {P : Nat → Nat → Int32} {n : Nat} {X : xX} (h : xCh X) (j : Nat) {v : Int32} (hv : narrow .char (.int v) = .int v) : xCh (sEnd P n X j v) := fun k => by
  show narrow .char (.int ((sFins P (j + 1) (n - (j + 1)) _).1 k)) = .int ((sFins P (j + 1) (n - (j + 1)) _).1 k)
  refine sFins_ch _ _ (fun q => ?_) k
  show narrow .char (.int (if q = j then v else X 2 q)) = .int (if q = j then v else X 2 q)
  split
  · exact hv
  · exact h q
theorem xCh.rul {P : Nat → Nat → Int32} {C : Nat → Nat → Nat → Nat → Int32} {cn : Nat → Nat → Nat} {n : Nat} {X : xX} (h : xCh X) (j : Nat) : xCh (sRul P C cn n X j).2 := by
  unfold sRul
  split
  · exact h.fin j rfl
  · split
    · refine xCh.off ?_ (by decide) _ _
      refine h.up _ _ ?_
      split <;> rfl
    · split
      · exact h.fin j rfl
      · split
        · exact h.up _ _ rfl
        · exact h
theorem xCh.swp {P : Nat → Nat → Int32} {C : Nat → Nat → Nat → Nat → Int32} {cn : Nat → Nat → Nat} {n : Nat} {X : xX} (h : xCh X) : ∀ i, xCh (sSwp P C cn n i X).2
  | 0 => h
  | i + 1 => (xCh.swp h i).rul i
theorem sSwp_s {P : Nat → Nat → Int32} {C : Nat → Nat → Nat → Nat → Int32} {cn : Nat → Nat → Nat} {n i : Nat} {Y Z : xX} {ch : Bool} (h : sSwp P C cn n i Y = (ch, Z)) : sSwp P C cn n (i + 1) Y = (ch || (sRul P C cn n Z i).1, (sRul P C cn n Z i).2) := by
  simp only [sSwp, h]
theorem sRnd_stop {P : Nat → Nat → Int32} {C : Nat → Nat → Nat → Nat → Int32} {cn : Nat → Nat → Nat} {n t r : Nat} {Y Z : xX} (ht : 0 < t) (h : sSwp P C cn n n Y = (false, Z)) : sRnd P C cn n t r Y = Z := by
  obtain ⟨t, rfl⟩ := Nat.exists_eq_succ_of_ne_zero (Nat.ne_of_gt ht)
  show (if (sSwp P C cn n n Y).1 = true then _ else (sSwp P C cn n n Y).2) = Z
  rw [h]; rfl
theorem sRnd_go {P : Nat → Nat → Int32} {C : Nat → Nat → Nat → Nat → Int32} {cn : Nat → Nat → Nat} {n t r : Nat} {Y Z : xX} (ht : 0 < t) (h : sSwp P C cn n n Y = (true, Z)) : sRnd P C cn n t r Y = sRnd P C cn n (t - 1) (r + 1) (up2 Z 0 9 (nI (r + 1))) := by
  obtain ⟨t, rfl⟩ := Nat.exists_eq_succ_of_ne_zero (Nat.ne_of_gt ht)
  show (if (sSwp P C cn n n Y).1 = true then sRnd P C cn n t (r + 1) (up2 (sSwp P C cn n n Y).2 0 9 (nI (r + 1))) else (sSwp P C cn n n Y).2) = _
  rw [h]; rfl
set_option maxHeartbeats 2000000 in
set_option maxRecDepth 100000 in
theorem c_X0_runRounds (l : Launch) (g : xG) (h : xS) (I : xI) (n c : Nat) (X : xX) (hc : c < sNc h ∨ c = 4) (p : Nat) (hp : sPl h c = p) (hpp : p < sNp h) (hW : xWp h I p) (hch : xCh X) : xM l yX0_runRounds (xws yX0_runRounds cX0_runRounds 4 none) 4 82 g [.ref (ga g [11, c, 0])] (xR g (xD h) (sX I c X) (xFh h) n) none (xR g (xD h) (sX I c (sRun (vP I p) (vC I p) (sCn h p) (sSz h p) X)) (xFh h) n) 0 0 := by
  refine xM.of (by decide) (Nat.le_of_ble_eq_true rfl) ?_
  intro P_ e_ s m_ bl_ mt_ cd_ ls hx hb hr hown hlocks hml hnm hE hK hts hH hS hl
  have hl : lv_has ls 4 [(0, .ref (ga g [11, c, 0]))] := hl
  have h8 := hW.1
  refine lv_aload_n hx hb dX0_runRounds_0 rfl (lv_at hl 0 rfl) ?_
  refine lv_iconst (v := 0) hx hb dX0_runRounds_1 (by decide) ?_
  obtain ⟨X1_, hX1_⟩ : ∃ z, z = up2 X 0 9 0 := ⟨_, rfl⟩
  refine x_put (C := RX0) (T := TX0) (N := 11) (ci := 0) hx hb hts iu0 tyX0 tyX0_ok nmX0 hown hK hH hS (id := [11, c, 0]) (by first | trivial | (simp only [xD]; omega) | (simp [xD]; done) | (simp [xD]; omega)) rfl rfl (by decide) 9 (by decide) (hts _ tw103) (fun _ h9 => h9) (Or.inl rfl) (ty := .int) (v := .int 0) (by decide +kernel) rfl rfl (I' := (sX I c X1_)) (F' := (xFh h)) (fun i hi => by rw [show (sX I c X1_) = _ from Eq.symm ((sX_up _ _ _ _ _ _).trans (congrArg (sX I c) hX1_.symm))]; exact up_id hi) (fun _ _ => rfl) (fun j9 => by rw [show (sX I c X1_) = _ from Eq.symm ((sX_up _ _ _ _ _ _).trans (congrArg (sX I c) hX1_.symm)), up_row]; exact xv_upd rfl j9) dX0_runRounds_2 (fun H locs hH hS => ?_)
  refine lv_iconst (v := 1) hx hb dX0_runRounds_5 (by decide) ?_
  refine lv_istore_n (lv' := [(1, .int 1), (0, .ref (ga g [11, c, 0]))]) hx hb dX0_runRounds_6 rfl hl (by decide) rfl (fun ls hl => ?_)
  have L7 : ∀ (fu : Nat) (r : Nat) (Y : xX) (H : Heap) (locs : List Loc) (ls : Array Slot), (r ≤ 20) → (sRun (vP I p) (vC I p) (sCn h p) (sSz h p) X = sRnd (vP I p) (vC I p) (sCn h p) (sSz h p) (20 - r) r Y) → (xCh Y) → 20 - r < fu → xR g (xD h) (sX I c Y) (xFh h) n H → va_S (gA g) s.heap H locs → lv_has ls 4 [(0, .ref (ga g [11, c, 0])), (1, .int (nI (r + 1)))] → W P_ l e_ { frames := 4, cells := 0, slots := 0, locals := 82 } s m_ ([.ref (ga g [11, c, 0])] : List Value).toArray bl_ mt_ cd_ H locs 0 0 (MQ bl_ (xQc g none (xR g (xD h) (sX I c (sRun (vP I p) (vC I p) (sCn h p) (sSz h p) X)) (xFh h) n)) ([.ref (ga g [11, c, 0])] : List Value).toArray s 0 0 (gA g)) (F0 m_ 7 ls []) := by
    intro fu
    induction fu with
    | zero => intro r Y H locs ls hr20 hY hcy hfu; exact absurd hfu (Nat.not_lt_zero _)
    | succ fu ih7 =>
      intro r Y H locs ls hr20 hY hcy hfu hH hS hl
      refine lv_iload_n hx hb dX0_runRounds_7 rfl (lv_at hl 1 rfl) ?_
      refine lv_bipush (v := 20) hx hb dX0_runRounds_8 (by decide) ?_
      refine lv_icmp_gt (tgt := 60) hx hb dX0_runRounds_10 (by decide) (fun c_10 => ?_) (fun c_10 => ?_)
      · skip
        have c_10 := (nI_ltI (a := 20) (b := (r + 1)) (by omega) (by omega)).mp c_10
        exact x_vret hx hb hr hlocks hS dX0_runRounds_60 (by rw [hY, show 20 - r = 0 by omega]; exact hH)
      · skip
        have c_10 : ¬ _ := fun z_ => c_10 ((nI_ltI (a := 20) (b := (r + 1)) (by omega) (by omega)).mpr z_)
        refine lv_iconst (v := 0) hx hb dX0_runRounds_13 (by decide) ?_
        refine lv_istore_n (lv' := [(2, .int 0), (0, .ref (ga g [11, c, 0])), (1, .int (nI (r + 1)))]) hx hb dX0_runRounds_14 rfl hl (by decide) rfl (fun ls hl => ?_)
        refine lv_iconst (v := 0) hx hb dX0_runRounds_15 (by decide) ?_
        refine lv_istore_n (lv' := [(3, .int 0), (2, .int 0), (0, .ref (ga g [11, c, 0])), (1, .int (nI (r + 1)))]) hx hb dX0_runRounds_16 rfl hl (by decide) rfl (fun ls hl => ?_)
        have L17 : ∀ (fu : Nat) (i : Nat) (ch : Bool) (Z : xX) (H : Heap) (locs : List Loc) (ls : Array Slot), (i ≤ sSz h p) → (sSwp (vP I p) (vC I p) (sCn h p) (sSz h p) i Y = (ch, Z)) → (xCh Z) → sSz h p - i < fu → xR g (xD h) (sX I c Z) (xFh h) n H → va_S (gA g) s.heap H locs → lv_has ls 4 [(0, .ref (ga g [11, c, 0])), (1, .int (nI (r + 1))), (2, .int (b01 ch)), (3, .int (nI i))] → W P_ l e_ { frames := 4, cells := 0, slots := 0, locals := 82 } s m_ ([.ref (ga g [11, c, 0])] : List Value).toArray bl_ mt_ cd_ H locs 0 0 (MQ bl_ (xQc g none (xR g (xD h) (sX I c (sRun (vP I p) (vC I p) (sCn h p) (sSz h p) X)) (xFh h) n)) ([.ref (ga g [11, c, 0])] : List Value).toArray s 0 0 (gA g)) (F0 m_ 17 ls []) := by
          intro fu
          induction fu with
          | zero => intro i ch Z H locs ls hi hZ hcz hfu; exact absurd hfu (Nat.not_lt_zero _)
          | succ fu ih17 =>
            intro i ch Z H locs ls hi hZ hcz hfu hH hS hl
            refine lv_iload_n hx hb dX0_runRounds_17 rfl (lv_at hl 3 rfl) ?_
            refine lv_aload_n hx hb dX0_runRounds_18 rfl (lv_at hl 0 rfl) ?_
            refine x_get (C := RX0) (T := TX0) (N := 11) (ci := 0) hx hb hts iu0 hown hK hH (id := [11, c, 0]) (by first | trivial | (simp only [xD]; omega) | (simp [xD]; done) | (simp [xD]; omega)) rfl rfl (by decide) 0 (by decide) (hts _ tw90) (fun _ h9 => h9) (sX_at _ _ _ _) (v := .ref (ga g [5, p])) (by rw [← hp]; rfl) dX0_runRounds_19 ?_
            refine x_get (C := RX4) (T := TX4) (N := 4) (ci := 4) hx hb hts iu4 hown hK hH (id := [5, p]) (by first | trivial | (simp only [xD]; omega) | (simp [xD]; done) | (simp [xD]; omega)) rfl rfl (by decide) 2 (by decide) (hts _ tw74) (fun _ h9 => h9) rfl (v := .int (nI (sSz h p))) (congrArg Value.int hW.2.2.1) dX0_runRounds_22 ?_
            refine lv_icmp_ge (tgt := 44) hx hb dX0_runRounds_25 (by decide) (fun c_25 => ?_) (fun c_25 => ?_)
            · skip
              have c_25 := (nI_leI (a := (sSz h p)) (b := i) (by omega) (by omega)).mp c_25
              have hZn : sSwp (vP I p) (vC I p) (sCn h p) (sSz h p) (sSz h p) Y = (ch, Z) := by rw [show sSz h p = i by omega]; rw [← show sSz h p = i by omega] at hZ ⊢; exact hZ
              refine lv_iload_n hx hb dX0_runRounds_44 rfl (lv_at hl 2 rfl) ?_
              refine lv_if_ne (tgt := 49) hx hb dX0_runRounds_45 (by decide) (fun c_45 => ?_) (fun c_45 => ?_)
              · skip
                have hZn : sSwp (vP I p) (vC I p) (sCn h p) (sSz h p) (sSz h p) Y = (true, Z) := by rw [hZn, b01_ne0 c_45]
                refine lv_aload_n hx hb dX0_runRounds_49 rfl (lv_at hl 0 rfl) ?_
                refine lv_iload_n hx hb dX0_runRounds_50 rfl (lv_at hl 1 rfl) ?_
                obtain ⟨X2_, hX2_⟩ : ∃ z, z = up2 Z 0 9 (nI (r + 1)) := ⟨_, rfl⟩
                refine x_put (C := RX0) (T := TX0) (N := 11) (ci := 0) hx hb hts iu0 tyX0 tyX0_ok nmX0 hown hK hH hS (id := [11, c, 0]) (by first | trivial | (simp only [xD]; omega) | (simp [xD]; done) | (simp [xD]; omega)) rfl rfl (by decide) 9 (by decide) (hts _ tw103) (fun _ h9 => h9) (Or.inl rfl) (ty := .int) (v := .int (nI (r + 1))) (by decide +kernel) rfl rfl (I' := (sX I c X2_)) (F' := (xFh h)) (fun i hi => by rw [show (sX I c X2_) = _ from Eq.symm ((sX_up _ _ _ _ _ _).trans (congrArg (sX I c) hX2_.symm))]; exact up_id hi) (fun _ _ => rfl) (fun j9 => by rw [show (sX I c X2_) = _ from Eq.symm ((sX_up _ _ _ _ _ _).trans (congrArg (sX I c) hX2_.symm)), up_row]; exact xv_upd rfl j9) dX0_runRounds_51 (fun H locs hH hS => ?_)
                refine lv_iinc (v := (nI ((r + 1) + 1))) (lv' := [(1, .int (nI ((r + 1) + 1))), (0, .ref (ga g [11, c, 0])), (2, .int (b01 ch)), (3, .int (nI i))]) hx hb dX0_runRounds_54 hl (k := 1) rfl (by first | rfl | exact nI_1 _ | exact nI_add _ _) (by decide) rfl (fun ls hl => ?_)
                refine lv_goto (tgt := 7) hx hb dX0_runRounds_57 (by decide) ?_
                exact ih7 (r + 1) X2_ _ _ _ (by omega) (by rw [hY, sRnd_go (by omega) hZn, hX2_, show 20 - r - 1 = 20 - (r + 1) by omega]) (by rw [hX2_]; exact hcz.off (by decide) _ _) (by omega) hH hS (lv_sub hl [1, 0] rfl)
              · skip
                have hZn : sSwp (vP I p) (vC I p) (sCn h p) (sSz h p) (sSz h p) Y = (false, Z) := by rw [hZn, (b01_eq0 _).mp c_45]
                exact x_vret hx hb hr hlocks hS dX0_runRounds_48 (by rw [hY, sRnd_stop (by omega) hZn]; exact hH)
            · skip
              have c_25 : ¬ _ := fun z_ => c_25 ((nI_leI (a := (sSz h p)) (b := i) (by omega) (by omega)).mpr z_)
              refine lv_aload_n hx hb dX0_runRounds_28 rfl (lv_at hl 0 rfl) ?_
              refine lv_iload_n hx hb dX0_runRounds_29 rfl (lv_at hl 3 rfl) ?_
              refine x_V1 hx hb hml hown hE hS hl.1 cyX0_applyRule tw535 (c_X0_applyRule l g h I n c Z hc p hp hpp hW i (by omega) hcz) ⟨Nat.le_of_ble_eq_true rfl, Nat.le_of_ble_eq_true rfl⟩ ⟨Nat.le_of_ble_eq_true rfl, Nat.le_of_ble_eq_true rfl⟩ (x_recv hK hH (id := [11, c, 0]) (by first | trivial | (simp only [xD]; omega) | (simp [xD]; done) | (simp [xD]; omega)) (ci := 0) rfl (by decide) rfl) hH rfl rfl (Nat.le_of_ble_eq_true rfl) dX0_runRounds_30 (fun H locs hH hS => ?_)
              refine lv_if_eq (tgt := 38) hx hb dX0_runRounds_33 (by decide) (fun c_33 => ?_) (fun c_33 => ?_)
              · skip
                refine lv_iinc (v := (nI (i + 1))) (lv' := [(3, .int (nI (i + 1))), (0, .ref (ga g [11, c, 0])), (1, .int (nI (r + 1))), (2, .int (b01 ch))]) hx hb dX0_runRounds_38 hl (k := 3) rfl (by first | rfl | exact nI_1 _ | exact nI_add _ _) (by decide) rfl (fun ls hl => ?_)
                refine lv_goto (tgt := 17) hx hb dX0_runRounds_41 (by decide) ?_
                exact ih17 (i + 1) ch ((sRul (vP I p) (vC I p) (sCn h p) (sSz h p) Z i).2) _ _ _ (by omega) (by rw [sSwp_s hZ, (b01_eq0 _).mp c_33, Bool.or_false]) (hcz.rul i) (by omega) hH hS (lv_sub hl [1, 2, 3, 0] rfl)
              · skip
                refine lv_iconst (v := 1) hx hb dX0_runRounds_36 (by decide) ?_
                refine lv_istore_n (lv' := [(2, .int 1), (0, .ref (ga g [11, c, 0])), (1, .int (nI (r + 1))), (3, .int (nI i))]) hx hb dX0_runRounds_37 rfl hl (by decide) rfl (fun ls hl => ?_)
                refine lv_iinc (v := (nI (i + 1))) (lv' := [(3, .int (nI (i + 1))), (2, .int 1), (0, .ref (ga g [11, c, 0])), (1, .int (nI (r + 1)))]) hx hb dX0_runRounds_38 hl (k := 3) rfl (by first | rfl | exact nI_1 _ | exact nI_add _ _) (by decide) rfl (fun ls hl => ?_)
                refine lv_goto (tgt := 17) hx hb dX0_runRounds_41 (by decide) ?_
                exact ih17 (i + 1) true ((sRul (vP I p) (vC I p) (sCn h p) (sSz h p) Z i).2) _ _ _ (by omega) (by rw [sSwp_s hZ, b01_ne0 c_33, Bool.or_true]) (hcz.rul i) (by omega) hH hS (lv_sub hl [2, 3, 1, 0] rfl)
        exact L17 _ 0 false Y _ _ _ (by omega) rfl hcy (Nat.lt_succ_self _) hH hS (lv_sub hl [2, 3, 1, 0] rfl)
  exact L7 _ 0 X1_ _ _ _ (by omega) (by rw [hX1_]; rfl) (by rw [hX1_]; exact hch.off (by decide) _ _) (Nat.lt_succ_self _) hH hS (lv_sub hl [1, 0] rfl)

def sOldT (P : Nat → Nat → Int32) (n : Nat) (X : xX) (i : Nat) : xX := fun f k => if f = 4 ∧ k < i ∧ k < n ∧ sAct P X k = true then X 4 k + 1 else up2 X 0 6 (X 0 6 + 1) f k
def sOld (P : Nat → Nat → Int32) (n : Nat) (X : xX) : xX := if X 0 7 = 0 then sOldT P n X 8 else up2 X 0 6 (X 0 6 + 1)
theorem sOldT_0 (P : Nat → Nat → Int32) (n : Nat) (X : xX) : sOldT P n X 0 = up2 X 0 6 (X 0 6 + 1) := by
  funext f k; simp [sOldT]
theorem sOldT_no {P : Nat → Nat → Int32} {n i : Nat} {X : xX} (h : ¬ (i < n ∧ sAct P X i = true)) : sOldT P n X (i + 1) = sOldT P n X i := by
  funext f k
  unfold sOldT
  by_cases e : k = i
  · subst e
    rw [if_neg (fun z => h z.2.2), if_neg (fun z => h z.2.2)]
  · by_cases e2 : k < i
    · simp [e2, Nat.lt_succ_of_lt e2]
    · rw [if_neg (fun z => by omega), if_neg (fun z => by omega)]
theorem sOldT_yes {P : Nat → Nat → Int32} {n i : Nat} {X : xX} (h : i < n ∧ sAct P X i = true) : up2 (sOldT P n X i) 4 i (sOldT P n X i 4 i + 1) = sOldT P n X (i + 1) := by
  funext f k
  have e0 : sOldT P n X i 4 i = X 4 i := by unfold sOldT; rw [if_neg (fun z => by omega), up2_f _ _ _ (by decide)]
  rw [e0]
  by_cases e : f = 4 ∧ k = i
  · obtain ⟨rfl, rfl⟩ := e
    rw [up2_at]
    unfold sOldT
    rw [if_pos ⟨rfl, by omega, h.1, h.2⟩]
  · have e3 : up2 (sOldT P n X i) 4 i (X 4 i + 1) f k = sOldT P n X i f k := by
      unfold up2; rw [if_neg e]
    rw [e3]
    unfold sOldT
    by_cases e2 : f = 4 ∧ k < i ∧ k < n ∧ sAct P X k = true
    · rw [if_pos e2, if_pos ⟨e2.1, by omega, e2.2.2⟩]
    · rw [if_neg e2, if_neg (fun z => e2 ⟨z.1, by have := fun q => e ⟨z.1, q⟩; omega, z.2.2⟩)]
theorem sOldT_st (P : Nat → Nat → Int32) (n : Nat) (X : xX) (i : Nat) : sOldT P n X i 2 = X 2 := by
  funext k
  unfold sOldT
  rw [if_neg (fun z => absurd z.1 (by decide)), up2_f _ _ _ (by decide)]
theorem sAct_st {P : Nat → Nat → Int32} {X Y : xX} (h : Y 2 = X 2) (j : Nat) : sAct P Y j = sAct P X j := by unfold sAct; rw [h]
set_option maxHeartbeats 1000000 in
set_option maxRecDepth 100000 in
theorem c_X0_growOlder (l : Launch) (g : xG) (h : xS) (I : xI) (n c : Nat) (X : xX) (hc : c < sNc h ∨ c = 4) (p : Nat) (hp : sPl h c = p) (hpp : p < sNp h) (hW : xWp h I p) (hch : xCh X) : xM l yX0_growOlder (xws yX0_growOlder cX0_growOlder 2 none) 3 55 g [.ref (ga g [11, c, 0])] (xR g (xD h) (sX I c X) (xFh h) n) none (xR g (xD h) (sX I c (sOld (vP I p) (sSz h p) X)) (xFh h) n) 0 0 := by
  refine xM.of (by decide) (Nat.le_of_ble_eq_true rfl) ?_
  intro P_ e_ s m_ bl_ mt_ cd_ ls hx hb hr hown hlocks hml hnm hE hK hts hH hS hl
  have hl : lv_has ls 2 [(0, .ref (ga g [11, c, 0]))] := hl
  have h8 := hW.1
  refine lv_aload_n hx hb dX0_growOlder_0 rfl (lv_at hl 0 rfl) ?_
  refine lv_dup hx hb dX0_growOlder_1 rfl ?_
  refine x_get (C := RX0) (T := TX0) (N := 11) (ci := 0) hx hb hts iu0 hown hK hH (id := [11, c, 0]) (by first | trivial | (simp only [xD]; omega) | (simp [xD]; done) | (simp [xD]; omega)) rfl rfl (by decide) 6 (by decide) (hts _ tw97) (fun _ h9 => h9) (sX_at _ _ _ _) (v := .int (X 0 6)) rfl dX0_growOlder_2 ?_
  refine lv_iconst (v := 1) hx hb dX0_growOlder_5 (by decide) ?_
  refine lv_iadd hx hb dX0_growOlder_6 ?_
  obtain ⟨X1_, hX1_⟩ : ∃ z, z = up2 X 0 6 ((X 0 6) + 1) := ⟨_, rfl⟩
  refine x_put (C := RX0) (T := TX0) (N := 11) (ci := 0) hx hb hts iu0 tyX0 tyX0_ok nmX0 hown hK hH hS (id := [11, c, 0]) (by first | trivial | (simp only [xD]; omega) | (simp [xD]; done) | (simp [xD]; omega)) rfl rfl (by decide) 6 (by decide) (hts _ tw97) (fun _ h9 => h9) (Or.inl rfl) (ty := .int) (v := .int ((X 0 6) + 1)) (by decide +kernel) rfl rfl (I' := (sX I c X1_)) (F' := (xFh h)) (fun i hi => by rw [show (sX I c X1_) = _ from Eq.symm ((sX_up _ _ _ _ _ _).trans (congrArg (sX I c) hX1_.symm))]; exact up_id hi) (fun _ _ => rfl) (fun j9 => by rw [show (sX I c X1_) = _ from Eq.symm ((sX_up _ _ _ _ _ _).trans (congrArg (sX I c) hX1_.symm)), up_row]; exact xv_upd rfl j9) dX0_growOlder_7 (fun H locs hH hS => ?_)
  refine lv_aload_n hx hb dX0_growOlder_10 rfl (lv_at hl 0 rfl) ?_
  refine x_get (C := RX0) (T := TX0) (N := 11) (ci := 0) hx hb hts iu0 hown hK hH (id := [11, c, 0]) (by first | trivial | (simp only [xD]; omega) | (simp [xD]; done) | (simp [xD]; omega)) rfl rfl (by decide) 7 (by decide) (hts _ tw99) (fun _ h9 => h9) (sX_at _ _ _ _) (v := .int (X1_ 0 7)) rfl dX0_growOlder_11 ?_
  refine lv_if_eq (tgt := 18) hx hb dX0_growOlder_14 (by decide) (fun c_14 => ?_) (fun c_14 => ?_)
  · skip
    have h7 : X 0 7 = 0 := by rw [hX1_, up2_k _ _ _ (by decide)] at c_14; exact c_14
    refine lv_iconst (v := 0) hx hb dX0_growOlder_18 (by decide) ?_
    refine lv_istore_n (lv' := [(1, .int 0), (0, .ref (ga g [11, c, 0]))]) hx hb dX0_growOlder_19 rfl hl (by decide) rfl (fun ls hl => ?_)
    have L20 : ∀ (fu : Nat) (i : Nat) (Y : xX) (H : Heap) (locs : List Loc) (ls : Array Slot), (i ≤ 8) → (Y = sOldT (vP I p) (sSz h p) X i) → (xCh Y) → 8 - i < fu → xR g (xD h) (sX I c Y) (xFh h) n H → va_S (gA g) s.heap H locs → lv_has ls 2 [(0, .ref (ga g [11, c, 0])), (1, .int (nI i))] → W P_ l e_ { frames := 3, cells := 0, slots := 0, locals := 55 } s m_ ([.ref (ga g [11, c, 0])] : List Value).toArray bl_ mt_ cd_ H locs 0 0 (MQ bl_ (xQc g none (xR g (xD h) (sX I c (sOld (vP I p) (sSz h p) X)) (xFh h) n)) ([.ref (ga g [11, c, 0])] : List Value).toArray s 0 0 (gA g)) (F0 m_ 20 ls []) := by
      intro fu
      induction fu with
      | zero => intro i Y H locs ls hi hY hcy hfu; exact absurd hfu (Nat.not_lt_zero _)
      | succ fu ih20 =>
        intro i Y H locs ls hi hY hcy hfu hH hS hl
        refine lv_iload_n hx hb dX0_growOlder_20 rfl (lv_at hl 1 rfl) ?_
        refine lv_bipush (v := 8) hx hb dX0_growOlder_21 (by decide) ?_
        refine lv_icmp_ge (tgt := 50) hx hb dX0_growOlder_23 (by decide) (fun c_23 => ?_) (fun c_23 => ?_)
        · skip
          have c_23 := (nI_leI (a := 8) (b := i) (by omega) (by omega)).mp c_23
          exact x_vret hx hb hr hlocks hS dX0_growOlder_50 (by rw [sOld, if_pos h7, show (8 : Nat) = i by omega, ← hY]; exact hH)
        · skip
          have c_23 : ¬ _ := fun z_ => c_23 ((nI_leI (a := 8) (b := i) (by omega) (by omega)).mpr z_)
          rcases Nat.lt_or_ge i (sSz h p) with hlt | hge
          · skip
            have hYa : sAct (vP I p) Y i = sAct (vP I p) X i := by rw [hY]; exact sAct_st (sOldT_st _ _ _ _) i
            refine lv_aload_n hx hb dX0_growOlder_26 rfl (lv_at hl 0 rfl) ?_
            refine lv_iload_n hx hb dX0_growOlder_27 rfl (lv_at hl 1 rfl) ?_
            refine x_V1 hx hb hml hown hE hS hl.1 cyX0_isActiveTask tw527 (c_X0_isActiveTask l g h I n c Y hc p hp hpp hW i hlt hcy) ⟨Nat.le_of_ble_eq_true rfl, Nat.le_of_ble_eq_true rfl⟩ ⟨Nat.le_of_ble_eq_true rfl, Nat.le_of_ble_eq_true rfl⟩ (x_recv hK hH (id := [11, c, 0]) (by first | trivial | (simp only [xD]; omega) | (simp [xD]; done) | (simp [xD]; omega)) (ci := 0) rfl (by decide) rfl) hH rfl rfl (Nat.le_of_ble_eq_true rfl) dX0_growOlder_28 (fun H locs hH hS => ?_)
            refine lv_if_eq (tgt := 44) hx hb dX0_growOlder_31 (by decide) (fun c_31 => ?_) (fun c_31 => ?_)
            · skip
              refine lv_iinc (v := (nI (i + 1))) (lv' := [(1, .int (nI (i + 1))), (0, .ref (ga g [11, c, 0]))]) hx hb dX0_growOlder_44 hl (k := 1) rfl (by first | rfl | exact nI_1 _ | exact nI_add _ _) (by decide) rfl (fun ls hl => ?_)
              refine lv_goto (tgt := 20) hx hb dX0_growOlder_47 (by decide) ?_
              exact ih20 (i + 1) Y _ _ _ (by omega) (by rw [hY]; refine (sOldT_no (fun z_ => ?_)).symm; rw [← hYa, (b01_eq0 _).mp c_31] at z_; cases z_.2) hcy (by omega) hH hS (lv_sub hl [1, 0] rfl)
            · skip
              refine lv_aload_n hx hb dX0_growOlder_34 rfl (lv_at hl 0 rfl) ?_
              refine x_get (C := RX0) (T := TX0) (N := 11) (ci := 0) hx hb hts iu0 hown hK hH (id := [11, c, 0]) (by first | trivial | (simp only [xD]; omega) | (simp [xD]; done) | (simp [xD]; omega)) rfl rfl (by decide) 4 (by decide) (hts _ tw95) (fun _ h9 => h9) (sX_at _ _ _ _) (v := .ref (ga g [11, c, 4])) rfl dX0_growOlder_35 ?_
              refine lv_iload_n hx hb dX0_growOlder_38 rfl (lv_at hl 1 rfl) ?_
              refine lv_dup2_11 hx hb dX0_growOlder_39 rfl rfl ?_
              refine x_iald hx hb hK hH (id := [11, c, 4]) (by first | trivial | (simp only [xD]; omega) | (simp [xD]; done) | (simp [xD]; omega)) (L := 8) rfl (sX_at _ _ _ _) i rfl (by omega) (by decide) dX0_growOlder_40 ?_
              refine lv_iconst (v := 1) hx hb dX0_growOlder_41 (by decide) ?_
              refine lv_iadd hx hb dX0_growOlder_42 ?_
              obtain ⟨X2_, hX2_⟩ : ∃ z, z = up2 Y 4 i ((Y 4 i) + 1) := ⟨_, rfl⟩
              refine x_iast hx hb hK hH hS (id := [11, c, 4]) (by first | trivial | (simp only [xD]; omega) | (simp [xD]; done) | (simp [xD]; omega)) (L := 8) rfl i rfl (by omega) (by decide) ((sX_up _ _ _ _ _ _).trans (congrArg (sX I c) hX2_.symm)) dX0_growOlder_43 (fun H locs hH hS => ?_)
              refine lv_iinc (v := (nI (i + 1))) (lv' := [(1, .int (nI (i + 1))), (0, .ref (ga g [11, c, 0]))]) hx hb dX0_growOlder_44 hl (k := 1) rfl (by first | rfl | exact nI_1 _ | exact nI_add _ _) (by decide) rfl (fun ls hl => ?_)
              refine lv_goto (tgt := 20) hx hb dX0_growOlder_47 (by decide) ?_
              exact ih20 (i + 1) X2_ _ _ _ (by omega) (by rw [hX2_, hY]; exact sOldT_yes ⟨hlt, hYa ▸ b01_ne0 c_31⟩) (by rw [hX2_]; exact hcy.off (by decide) _ _) (by omega) hH hS (lv_sub hl [1, 0] rfl)
          · skip
            refine lv_aload_n hx hb dX0_growOlder_26 rfl (lv_at hl 0 rfl) ?_
            refine lv_iload_n hx hb dX0_growOlder_27 rfl (lv_at hl 1 rfl) ?_
            refine x_V1 hx hb hml hown hE hS hl.1 cyX0_isActiveTask tw527 (c_X0_isActiveTask_no l g h I n c Y hc p hp hpp hW i hge (by omega)) ⟨Nat.le_of_ble_eq_true rfl, Nat.le_of_ble_eq_true rfl⟩ ⟨Nat.le_of_ble_eq_true rfl, Nat.le_of_ble_eq_true rfl⟩ (x_recv hK hH (id := [11, c, 0]) (by first | trivial | (simp only [xD]; omega) | (simp [xD]; done) | (simp [xD]; omega)) (ci := 0) rfl (by decide) rfl) hH rfl rfl (Nat.le_of_ble_eq_true rfl) dX0_growOlder_28 (fun H locs hH hS => ?_)
            refine lv_if_eq (tgt := 44) hx hb dX0_growOlder_31 (by decide) (fun _ => ?_) (fun q_ => absurd (by decide) q_)
            refine lv_iinc (v := (nI (i + 1))) (lv' := [(1, .int (nI (i + 1))), (0, .ref (ga g [11, c, 0]))]) hx hb dX0_growOlder_44 hl (k := 1) rfl (by first | rfl | exact nI_1 _ | exact nI_add _ _) (by decide) rfl (fun ls hl => ?_)
            refine lv_goto (tgt := 20) hx hb dX0_growOlder_47 (by decide) ?_
            exact ih20 (i + 1) Y _ _ _ (by omega) (by rw [hY]; exact (sOldT_no (fun z_ => by omega)).symm) hcy (by omega) hH hS (lv_sub hl [1, 0] rfl)
    exact L20 _ 0 X1_ _ _ _ (by omega) (by rw [hX1_]; exact (sOldT_0 _ _ _).symm) (by rw [hX1_]; exact hch.off (by decide) _ _) (Nat.lt_succ_self _) hH hS (lv_sub hl [1, 0] rfl)
  · skip
    have h7 : ¬ X 0 7 = 0 := by rw [hX1_, up2_k _ _ _ (by decide)] at c_14; exact c_14
    exact x_vret hx hb hr hlocks hS dX0_growOlder_17 (by rw [sOld, if_neg h7]; rw [hX1_] at hH; exact hH)
