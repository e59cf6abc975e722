/-! CONTRACTS: a case, its loops -/
/-- the plan of a case is another one -/
abbrev hPl (h : xS) (c q : Nat) : xS := (sNp h, sNc h, sSz h, sCn h, (fun d => if d = c then q else sPl h d), sOw h)
theorem xFh_pl (h : xS) (c q : Nat) : up (xFh h) [11, c, 0] 0 (some [5, q]) = xFh (hPl h c q) := by
  funext id k
  by_cases e : id = [11, c, 0]
  · subst e
    by_cases e2 : k = 0
    · subst e2
      rw [up_at]
      show some [5, q] = some [5, if c = c then q else sPl h c]
      rw [if_pos rfl]
    · rw [up_ne e2]
      exact match k, e2 with
        | 0, e2 => absurd rfl e2
        | 1, _ => rfl
        | 2, _ => rfl
        | 3, _ => rfl
        | 4, _ => rfl
        | 5, _ => rfl
        | _ + 6, _ => rfl
  · rw [up_id e]
    unfold xFh
    split <;> try rfl
    rename_i d
    have hd : d ≠ c := fun z => e (by rw [z])
    split <;> first | rfl | (show some [5, sPl h d] = some [5, if d = c then q else sPl h d]; rw [if_neg hd])
theorem xD_pl (h : xS) (c q : Nat) : xD (hPl h c q) = xD h := rfl
set_option maxHeartbeats 1000000 in
set_option maxRecDepth 100000 in
theorem c_X0_goBy (l : Launch) (g : xG) (h : xS) (I : xI) (n c : Nat) (X : xX) (hc : c < sNc h ∨ c = 4) (q : Nat) : xM l yX0_goBy (xws yX0_goBy cX0_goBy 2 none) 1 12 g [.ref (ga g [11, c, 0]), .ref (ga g [5, q])] (xR g (xD h) (sX I c X) (xFh h) n) none (xR g (xD h) (sX I c X) (xFh (hPl h c q)) n) 0 0 := by
  refine xM.of (by decide) (Nat.le_of_ble_eq_true rfl) ?_
  intro P_ e_ s m_ bl_ mt_ cd_ ls hx hb hr hown hlocks hml hnm hE hK hts hH hS hl
  have hl : lv_has ls 2 [(0, .ref (ga g [11, c, 0])), (1, .ref (ga g [5, q]))] := hl
  refine lv_aload_n hx hb dX0_goBy_0 rfl (lv_at hl 1 rfl) ?_
  refine lv_ifnull hx hb dX0_goBy_1 ?_
  refine lv_aload_n hx hb dX0_goBy_4 rfl (lv_at hl 0 rfl) ?_
  refine lv_aload_n hx hb dX0_goBy_5 rfl (lv_at hl 1 rfl) ?_
  refine x_put (C := RX0) (T := TX0) (N := 11) (ci := 0) hx hb hts iu0 tyX0 tyX0_ok nmX0 hown hK hH hS (id := [11, c, 0]) (by first | trivial | (simp only [xD]; omega) | (simp [xD]; done) | (simp [xD]; omega)) rfl rfl (by decide) 0 (by decide) (hts _ tw90) (fun _ h9 => h9) (Or.inl rfl) (ty := (.object "CasebookSteps$Plan")) (v := .ref (ga g [5, q])) (by decide +kernel) rfl rfl (I' := (sX I c X)) (F' := (xFh (hPl h c q))) (fun _ _ => rfl) (fun i hi => by rw [← show _ = (xFh (hPl h c q)) from (xFh_pl h c q)]; exact up_id hi) (fun j9 => by rw [← show _ = (xFh (hPl h c q)) from (xFh_pl h c q), up_row]; exact xv_updq (x := (some [5, q])) rfl j9) dX0_goBy_6 (fun H locs hH hS => ?_)
  exact x_vret hx hb hr hlocks hS dX0_goBy_9 hH

def sNw1 (X : xX) (i : Nat) : xX := fun f k => if f = 1 ∧ k < i then 0 else X f k
def sNw2 (X : xX) (i : Nat) : xX := fun f k => if f = 1 ∧ k < 4 then 0 else if f = 2 ∧ k < i then 105 else if (f = 4 ∨ f = 5) ∧ k < i then 0 else X f k
def sNew (X : xX) : xX := up2 (up2 (up2 (up2 (sNw2 X 8) 0 6 0) 0 7 0) 0 8 (-1)) 0 10 0
theorem sNw1_0 (X : xX) : sNw1 X 0 = X := by funext f k; unfold sNw1; rw [if_neg (fun z => by omega)]
theorem sNw1_s (X : xX) (i : Nat) : up2 (sNw1 X i) 1 i 0 = sNw1 X (i + 1) := by
  funext f k
  unfold up2 sNw1
  split
  · rename_i e; rw [if_pos ⟨e.1, by omega⟩]
  · rename_i e
    by_cases e2 : f = 1 ∧ k < i
    · rw [if_pos e2, if_pos ⟨e2.1, by omega⟩]
    · rw [if_neg e2, if_neg (fun z => by have : ¬ k = i := fun q => e ⟨z.1, q⟩; exact e2 ⟨z.1, by omega⟩)]
theorem sNw2_0 (X : xX) : sNw2 X 0 = sNw1 X 4 := by
  funext f k
  unfold sNw2 sNw1
  split
  · rfl
  · rw [if_neg (fun z => by omega), if_neg (fun z => by omega)]
theorem sNw2_s (X : xX) (i : Nat) : up2 (up2 (up2 (sNw2 X i) 2 i 105) 4 i 0) 5 i 0 = sNw2 X (i + 1) := by
  funext f k
  by_cases e1 : f = 1
  · subst e1; simp [up2, sNw2]
  · by_cases e2 : f = 2
    · subst e2
      by_cases ek : k = i
      · subst ek; simp [up2, sNw2]
      · by_cases h : k < i
        · simp [up2, sNw2, ek, h, Nat.lt_succ_of_lt h]
        · simp [up2, sNw2, ek, h, show ¬ k < i + 1 by omega]
    · by_cases e4 : f = 4
      · subst e4
        by_cases ek : k = i
        · subst ek; simp [up2, sNw2]
        · by_cases h : k < i
          · simp [up2, sNw2, ek, h, Nat.lt_succ_of_lt h]
          · simp [up2, sNw2, ek, h, show ¬ k < i + 1 by omega]
      · by_cases e5 : f = 5
        · subst e5
          by_cases ek : k = i
          · subst ek; simp [up2, sNw2]
          · by_cases h : k < i
            · simp [up2, sNw2, ek, h, Nat.lt_succ_of_lt h]
            · simp [up2, sNw2, ek, h, show ¬ k < i + 1 by omega]
        · simp [up2, sNw2, e1, e2, e4, e5]
set_option maxHeartbeats 1000000 in
set_option maxRecDepth 100000 in
theorem c_X0_beginAnew (l : Launch) (g : xG) (h : xS) (I : xI) (n c : Nat) (X : xX) (hc : c < sNc h ∨ c = 4) (q : Nat) : xM l yX0_beginAnew (xws yX0_beginAnew cX0_beginAnew 3 none) 2 33 g [.ref (ga g [11, c, 0]), .ref (ga g [5, q])] (xR g (xD h) (sX I c X) (xFh h) n) none (xR g (xD h) (sX I c (sNew X)) (xFh (hPl h c q)) n) 0 0 := by
  refine xM.of (by decide) (Nat.le_of_ble_eq_true rfl) ?_
  intro P_ e_ s m_ bl_ mt_ cd_ ls hx hb hr hown hlocks hml hnm hE hK hts hH hS hl
  have hl : lv_has ls 3 [(0, .ref (ga g [11, c, 0])), (1, .ref (ga g [5, q]))] := hl
  refine lv_aload_n hx hb dX0_beginAnew_0 rfl (lv_at hl 0 rfl) ?_
  refine lv_aload_n hx hb dX0_beginAnew_1 rfl (lv_at hl 1 rfl) ?_
  refine x_V0 hx hb hml hown hE hS hl.1 cyX0_goBy tw500 (c_X0_goBy l g h I n c X hc q) ⟨Nat.le_of_ble_eq_true rfl, Nat.le_of_ble_eq_true rfl⟩ ⟨Nat.le_of_ble_eq_true rfl, Nat.le_of_ble_eq_true rfl⟩ (x_recv hK hH (id := [11, c, 0]) (by first | trivial | (simp only [xD]; omega) | (simp [xD]; done) | (simp [xD]; omega)) (ci := 0) rfl (by decide) rfl) hH rfl rfl (Nat.le_of_ble_eq_true rfl) dX0_beginAnew_2 (fun H locs hH hS => ?_)
  refine lv_iconst (v := 0) hx hb dX0_beginAnew_5 (by decide) ?_
  refine lv_istore_n (lv' := [(2, .int 0), (0, .ref (ga g [11, c, 0])), (1, .ref (ga g [5, q]))]) hx hb dX0_beginAnew_6 rfl hl (by decide) rfl (fun ls hl => ?_)
  have L7 : ∀ (fu : Nat) (i : Nat) (Y : xX) (H : Heap) (locs : List Loc) (ls : Array Slot), (i ≤ 4) → (Y = sNw1 X i) → 4 - i < fu → xR g (xD h) (sX I c Y) (xFh (hPl h c q)) n H → va_S (gA g) s.heap H locs → lv_has ls 3 [(0, .ref (ga g [11, c, 0])), (2, .int (nI i))] → W P_ l e_ { frames := 2, cells := 0, slots := 0, locals := 33 } s m_ ([.ref (ga g [11, c, 0]), .ref (ga g [5, q])] : List Value).toArray bl_ mt_ cd_ H locs 0 0 (MQ bl_ (xQc g none (xR g (xD h) (sX I c (sNew X)) (xFh (hPl h c q)) n)) ([.ref (ga g [11, c, 0]), .ref (ga g [5, q])] : List Value).toArray s 0 0 (gA g)) (F0 m_ 7 ls []) := by
    intro fu
    induction fu with
    | zero => intro i Y H locs ls hi hY hfu; exact absurd hfu (Nat.not_lt_zero _)
    | succ fu ih7 =>
      intro i Y H locs ls hi hY hfu hH hS hl
      refine lv_iload_n hx hb dX0_beginAnew_7 rfl (lv_at hl 1 rfl) ?_
      refine lv_iconst (v := 4) hx hb dX0_beginAnew_8 (by decide) ?_
      refine lv_icmp_ge (tgt := 25) hx hb dX0_beginAnew_9 (by decide) (fun c_9 => ?_) (fun c_9 => ?_)
      · skip
        have c_9 := (nI_leI (a := 4) (b := i) (by omega) (by omega)).mp c_9
        refine lv_iconst (v := 0) hx hb dX0_beginAnew_25 (by decide) ?_
        refine lv_istore_n (lv' := [(2, .int 0), (0, .ref (ga g [11, c, 0]))]) hx hb dX0_beginAnew_26 rfl hl (by decide) rfl (fun ls hl => ?_)
        have L27 : ∀ (fu : Nat) (i : Nat) (Z : xX) (H : Heap) (locs : List Loc) (ls : Array Slot), (i ≤ 8) → (Z = sNw2 X i) → 8 - i < fu → xR g (xD h) (sX I c Z) (xFh (hPl h c q)) n H → va_S (gA g) s.heap H locs → lv_has ls 3 [(0, .ref (ga g [11, c, 0])), (2, .int (nI i))] → W P_ l e_ { frames := 2, cells := 0, slots := 0, locals := 33 } s m_ ([.ref (ga g [11, c, 0]), .ref (ga g [5, q])] : List Value).toArray bl_ mt_ cd_ H locs 0 0 (MQ bl_ (xQc g none (xR g (xD h) (sX I c (sNew X)) (xFh (hPl h c q)) n)) ([.ref (ga g [11, c, 0]), .ref (ga g [5, q])] : List Value).toArray s 0 0 (gA g)) (F0 m_ 27 ls []) := by
          intro fu
          induction fu with
          | zero => intro i Z H locs ls hi hZ hfu; exact absurd hfu (Nat.not_lt_zero _)
          | succ fu ih27 =>
            intro i Z H locs ls hi hZ hfu hH hS hl
            refine lv_iload_n hx hb dX0_beginAnew_27 rfl (lv_at hl 1 rfl) ?_
            refine lv_bipush (v := 8) hx hb dX0_beginAnew_28 (by decide) ?_
            refine lv_icmp_ge (tgt := 61) hx hb dX0_beginAnew_30 (by decide) (fun c_30 => ?_) (fun c_30 => ?_)
            · skip
              have c_30 := (nI_leI (a := 8) (b := i) (by omega) (by omega)).mp c_30
              refine lv_aload_n hx hb dX0_beginAnew_61 rfl (lv_at hl 0 rfl) ?_
              refine lv_iconst (v := 0) hx hb dX0_beginAnew_62 (by decide) ?_
              obtain ⟨X1_, hX1_⟩ : ∃ z, z = up2 Z 0 6 0 := ⟨_, rfl⟩
              refine x_put (C := RX0) (T := TX0) (N := 11) (ci := 0) hx hb hts iu0 tyX0 tyX0_ok nmX0 hown hK hH hS (id := [11, c, 0]) (by first | trivial | (simp only [xD]; omega) | (simp [xD]; done) | (simp [xD]; omega)) rfl rfl (by decide) 6 (by decide) (hts _ tw97) (fun _ h9 => h9) (Or.inl rfl) (ty := .int) (v := .int 0) (by decide +kernel) rfl rfl (I' := (sX I c X1_)) (F' := (xFh (hPl h c q))) (fun i hi => by rw [show (sX I c X1_) = _ from Eq.symm ((sX_up _ _ _ _ _ _).trans (congrArg (sX I c) hX1_.symm))]; exact up_id hi) (fun _ _ => rfl) (fun j9 => by rw [show (sX I c X1_) = _ from Eq.symm ((sX_up _ _ _ _ _ _).trans (congrArg (sX I c) hX1_.symm)), up_row]; exact xv_upd rfl j9) dX0_beginAnew_63 (fun H locs hH hS => ?_)
              refine lv_aload_n hx hb dX0_beginAnew_66 rfl (lv_at hl 0 rfl) ?_
              refine lv_iconst (v := 0) hx hb dX0_beginAnew_67 (by decide) ?_
              obtain ⟨X2_, hX2_⟩ : ∃ z, z = up2 X1_ 0 7 0 := ⟨_, rfl⟩
              refine x_put (C := RX0) (T := TX0) (N := 11) (ci := 0) hx hb hts iu0 tyX0 tyX0_ok nmX0 hown hK hH hS (id := [11, c, 0]) (by first | trivial | (simp only [xD]; omega) | (simp [xD]; done) | (simp [xD]; omega)) rfl rfl (by decide) 7 (by decide) (hts _ tw99) (fun _ h9 => h9) (Or.inl rfl) (ty := .boolean) (v := .int 0) (by decide +kernel) rfl rfl (I' := (sX I c X2_)) (F' := (xFh (hPl h c q))) (fun i hi => by rw [show (sX I c X2_) = _ from Eq.symm ((sX_up _ _ _ _ _ _).trans (congrArg (sX I c) hX2_.symm))]; exact up_id hi) (fun _ _ => rfl) (fun j9 => by rw [show (sX I c X2_) = _ from Eq.symm ((sX_up _ _ _ _ _ _).trans (congrArg (sX I c) hX2_.symm)), up_row]; exact xv_upd rfl j9) dX0_beginAnew_68 (fun H locs hH hS => ?_)
              refine lv_aload_n hx hb dX0_beginAnew_71 rfl (lv_at hl 0 rfl) ?_
              refine lv_iconst (v := (-1)) hx hb dX0_beginAnew_72 (by decide) ?_
              obtain ⟨X3_, hX3_⟩ : ∃ z, z = up2 X2_ 0 8 (-1) := ⟨_, rfl⟩
              refine x_put (C := RX0) (T := TX0) (N := 11) (ci := 0) hx hb hts iu0 tyX0 tyX0_ok nmX0 hown hK hH hS (id := [11, c, 0]) (by first | trivial | (simp only [xD]; omega) | (simp [xD]; done) | (simp [xD]; omega)) rfl rfl (by decide) 8 (by decide) (hts _ tw101) (fun _ h9 => h9) (Or.inl rfl) (ty := .int) (v := .int (-1)) (by decide +kernel) rfl rfl (I' := (sX I c X3_)) (F' := (xFh (hPl h c q))) (fun i hi => by rw [show (sX I c X3_) = _ from Eq.symm ((sX_up _ _ _ _ _ _).trans (congrArg (sX I c) hX3_.symm))]; exact up_id hi) (fun _ _ => rfl) (fun j9 => by rw [show (sX I c X3_) = _ from Eq.symm ((sX_up _ _ _ _ _ _).trans (congrArg (sX I c) hX3_.symm)), up_row]; exact xv_upd rfl j9) dX0_beginAnew_73 (fun H locs hH hS => ?_)
              refine lv_aload_n hx hb dX0_beginAnew_76 rfl (lv_at hl 0 rfl) ?_
              refine lv_iconst (v := 0) hx hb dX0_beginAnew_77 (by decide) ?_
              obtain ⟨X4_, hX4_⟩ : ∃ z, z = up2 X3_ 0 10 0 := ⟨_, rfl⟩
              refine x_put (C := RX0) (T := TX0) (N := 11) (ci := 0) hx hb hts iu0 tyX0 tyX0_ok nmX0 hown hK hH hS (id := [11, c, 0]) (by first | trivial | (simp only [xD]; omega) | (simp [xD]; done) | (simp [xD]; omega)) rfl rfl (by decide) 10 (by decide) (hts _ tw105) (fun _ h9 => h9) (Or.inl rfl) (ty := .int) (v := .int 0) (by decide +kernel) rfl rfl (I' := (sX I c X4_)) (F' := (xFh (hPl h c q))) (fun i hi => by rw [show (sX I c X4_) = _ from Eq.symm ((sX_up _ _ _ _ _ _).trans (congrArg (sX I c) hX4_.symm))]; exact up_id hi) (fun _ _ => rfl) (fun j9 => by rw [show (sX I c X4_) = _ from Eq.symm ((sX_up _ _ _ _ _ _).trans (congrArg (sX I c) hX4_.symm)), up_row]; exact xv_upd rfl j9) dX0_beginAnew_78 (fun H locs hH hS => ?_)
              exact x_vret hx hb hr hlocks hS dX0_beginAnew_81 (by rw [hX4_, hX3_, hX2_, hX1_, hZ, show i = 8 by omega] at hH; exact hH)
            · skip
              have c_30 : ¬ _ := fun z_ => c_30 ((nI_leI (a := 8) (b := i) (by omega) (by omega)).mpr z_)
              refine lv_aload_n hx hb dX0_beginAnew_33 rfl (lv_at hl 0 rfl) ?_
              refine x_get (C := RX0) (T := TX0) (N := 11) (ci := 0) hx hb hts iu0 hown hK hH (id := [11, c, 0]) (by first | trivial | (simp only [xD]; omega) | (simp [xD]; done) | (simp [xD]; omega)) rfl rfl (by decide) 2 (by decide) (hts _ tw93) (fun _ h9 => h9) (sX_at _ _ _ _) (v := .ref (ga g [11, c, 2])) rfl dX0_beginAnew_34 ?_
              refine lv_iload_n hx hb dX0_beginAnew_37 rfl (lv_at hl 1 rfl) ?_
              refine lv_bipush (v := 105) hx hb dX0_beginAnew_38 (by decide) ?_
              obtain ⟨X5_, hX5_⟩ : ∃ z, z = up2 Z 2 i 105 := ⟨_, rfl⟩
              refine x_cast hx hb hK hH hS (id := [11, c, 2]) (by first | trivial | (simp only [xD]; omega) | (simp [xD]; done) | (simp [xD]; omega)) (L := 8) rfl i rfl (by omega) (by decide) (by rfl) ((sX_up _ _ _ _ _ _).trans (congrArg (sX I c) hX5_.symm)) dX0_beginAnew_40 (fun H locs hH hS => ?_)
              refine lv_aload_n hx hb dX0_beginAnew_41 rfl (lv_at hl 0 rfl) ?_
              refine x_get (C := RX0) (T := TX0) (N := 11) (ci := 0) hx hb hts iu0 hown hK hH (id := [11, c, 0]) (by first | trivial | (simp only [xD]; omega) | (simp [xD]; done) | (simp [xD]; omega)) rfl rfl (by decide) 4 (by decide) (hts _ tw95) (fun _ h9 => h9) (sX_at _ _ _ _) (v := .ref (ga g [11, c, 4])) rfl dX0_beginAnew_42 ?_
              refine lv_iload_n hx hb dX0_beginAnew_45 rfl (lv_at hl 1 rfl) ?_
              refine lv_iconst (v := 0) hx hb dX0_beginAnew_46 (by decide) ?_
              obtain ⟨X6_, hX6_⟩ : ∃ z, z = up2 X5_ 4 i 0 := ⟨_, rfl⟩
              refine x_iast hx hb hK hH hS (id := [11, c, 4]) (by first | trivial | (simp only [xD]; omega) | (simp [xD]; done) | (simp [xD]; omega)) (L := 8) rfl i rfl (by omega) (by decide) ((sX_up _ _ _ _ _ _).trans (congrArg (sX I c) hX6_.symm)) dX0_beginAnew_47 (fun H locs hH hS => ?_)
              refine lv_aload_n hx hb dX0_beginAnew_48 rfl (lv_at hl 0 rfl) ?_
              refine x_get (C := RX0) (T := TX0) (N := 11) (ci := 0) hx hb hts iu0 hown hK hH (id := [11, c, 0]) (by first | trivial | (simp only [xD]; omega) | (simp [xD]; done) | (simp [xD]; omega)) rfl rfl (by decide) 5 (by decide) (hts _ tw96) (fun _ h9 => h9) (sX_at _ _ _ _) (v := .ref (ga g [11, c, 5])) rfl dX0_beginAnew_49 ?_
              refine lv_iload_n hx hb dX0_beginAnew_52 rfl (lv_at hl 1 rfl) ?_
              refine lv_iconst (v := 0) hx hb dX0_beginAnew_53 (by decide) ?_
              obtain ⟨X7_, hX7_⟩ : ∃ z, z = up2 X6_ 5 i 0 := ⟨_, rfl⟩
              refine x_iast hx hb hK hH hS (id := [11, c, 5]) (by first | trivial | (simp only [xD]; omega) | (simp [xD]; done) | (simp [xD]; omega)) (L := 8) rfl i rfl (by omega) (by decide) ((sX_up _ _ _ _ _ _).trans (congrArg (sX I c) hX7_.symm)) dX0_beginAnew_54 (fun H locs hH hS => ?_)
              refine lv_iinc (v := (nI (i + 1))) (lv' := [(2, .int (nI (i + 1))), (0, .ref (ga g [11, c, 0]))]) hx hb dX0_beginAnew_55 hl (k := 1) rfl (by first | rfl | exact nI_1 _ | exact nI_add _ _) (by decide) rfl (fun ls hl => ?_)
              refine lv_goto (tgt := 27) hx hb dX0_beginAnew_58 (by decide) ?_
              exact ih27 (i + 1) X7_ _ _ _ (by omega) (by rw [hX7_, hX6_, hX5_, hZ]; exact sNw2_s X i) (by omega) hH hS (lv_sub hl [1, 0] rfl)
        exact L27 _ 0 Y _ _ _ (by omega) (by rw [hY, show i = 4 by omega]; exact (sNw2_0 X).symm) (Nat.lt_succ_self _) hH hS (lv_sub hl [1, 0] rfl)
      · skip
        have c_9 : ¬ _ := fun z_ => c_9 ((nI_leI (a := 4) (b := i) (by omega) (by omega)).mpr z_)
        refine lv_aload_n hx hb dX0_beginAnew_12 rfl (lv_at hl 0 rfl) ?_
        refine x_get (C := RX0) (T := TX0) (N := 11) (ci := 0) hx hb hts iu0 hown hK hH (id := [11, c, 0]) (by first | trivial | (simp only [xD]; omega) | (simp [xD]; done) | (simp [xD]; omega)) rfl rfl (by decide) 1 (by decide) (hts _ tw92) (fun _ h9 => h9) (sX_at _ _ _ _) (v := .ref (ga g [11, c, 1])) rfl dX0_beginAnew_13 ?_
        refine lv_iload_n hx hb dX0_beginAnew_16 rfl (lv_at hl 1 rfl) ?_
        refine lv_iconst (v := 0) hx hb dX0_beginAnew_17 (by decide) ?_
        obtain ⟨X8_, hX8_⟩ : ∃ z, z = up2 Y 1 i 0 := ⟨_, rfl⟩
        refine x_iast hx hb hK hH hS (id := [11, c, 1]) (by first | trivial | (simp only [xD]; omega) | (simp [xD]; done) | (simp [xD]; omega)) (L := 4) rfl i rfl (by omega) (by decide) ((sX_up _ _ _ _ _ _).trans (congrArg (sX I c) hX8_.symm)) dX0_beginAnew_18 (fun H locs hH hS => ?_)
        refine lv_iinc (v := (nI (i + 1))) (lv' := [(2, .int (nI (i + 1))), (0, .ref (ga g [11, c, 0]))]) hx hb dX0_beginAnew_19 hl (k := 1) rfl (by first | rfl | exact nI_1 _ | exact nI_add _ _) (by decide) rfl (fun ls hl => ?_)
        refine lv_goto (tgt := 7) hx hb dX0_beginAnew_22 (by decide) ?_
        exact ih7 (i + 1) X8_ _ _ _ (by omega) (by rw [hX8_, hY]; exact sNw1_s X i) (by omega) hH hS (lv_sub hl [1, 0] rfl)
  exact L7 _ 0 X _ _ _ (by omega) (sNw1_0 X).symm (Nat.lt_succ_self _) hH hS (lv_sub hl [1, 0] rfl)

def sRem (X : xX) (i : Nat) : xX := fun f k => if f = 3 ∧ k < i then X 2 k else X f k
theorem sRem_0 (X : xX) : sRem X 0 = X := by funext f k; unfold sRem; rw [if_neg (fun z => by omega)]
theorem sRem_s (X : xX) (i : Nat) : up2 (sRem X i) 3 i (sRem X i 2 i) = sRem X (i + 1) := by
  have e0 : sRem X i 2 i = X 2 i := by unfold sRem; rw [if_neg (fun z => absurd z.1 (by decide))]
  rw [e0]
  funext f k
  unfold up2 sRem
  split
  · rename_i e; rw [if_pos ⟨e.1, by omega⟩, e.2]
  · rename_i e
    by_cases e2 : f = 3 ∧ k < i
    · rw [if_pos e2, if_pos ⟨e2.1, by omega⟩]
    · rw [if_neg e2, if_neg (fun z => by have : ¬ k = i := fun q => e ⟨z.1, q⟩; exact e2 ⟨z.1, by omega⟩)]
theorem sRem_2 (X : xX) (i : Nat) : sRem X i 2 = X 2 := by funext k; unfold sRem; rw [if_neg (fun z => absurd z.1 (by decide))]
def sChg (X : xX) (y : Int32) : Nat → Nat
  | 0 => 0
  | i + 1 => sChg X y i + if nI i ≠ y ∧ X 2 i ≠ X 3 i then 1 else 0
def sCnt (X : xX) (v : Int32) : Nat → Nat
  | 0 => 0
  | i + 1 => sCnt X v i + if X 2 i = v then 1 else 0
def sOvr (P : Nat → Nat → Int32) (X : xX) : Nat → Bool
  | 0 => true
  | i + 1 => sOvr P X i && (decide (P i 1 ≠ -1) || decide (X 2 i = 99) || decide (X 2 i = 120))
def sSum (X : xX) : Nat → Int64
  | 0 => 0
  | i + 1 => sSum X i + (X 4 i).toInt64
def sFew (P : Nat → Nat → Int32) (X : xX) : Nat → Int32
  | 0 => -1
  | i + 1 => if sAct P X i = true ∧ 0 < sUnt P X i ∧ (sFew P X i = -1 ∨ sUnt P X i < sFew P X i) then sUnt P X i else sFew P X i
def sLat (P : Nat → Nat → Int32) (X : xX) : Nat → Nat
  | 0 => 0
  | i + 1 => sLat P X i + if sAct P X i = true ∧ sUnt P X i ≤ 0 then 1 else 0
theorem sOvr_mono {P : Nat → Nat → Int32} {X : xX} (a : Nat) : ∀ b, a ≤ b → sOvr P X a = false → sOvr P X b = false
  | 0, h, q => by rw [show a = 0 by omega] at q; exact q
  | b + 1, h, q => by
    by_cases e : a = b + 1
    · rw [← e]; exact q
    · show (_ && _) = false
      rw [sOvr_mono a b (by omega) q]; rfl
set_option maxHeartbeats 1000000 in
set_option maxRecDepth 100000 in
theorem c_X0_rememberStates (l : Launch) (g : xG) (h : xS) (I : xI) (n c : Nat) (X : xX) (hc : c < sNc h ∨ c = 4) (hch : xCh X) : xM l yX0_rememberStates (xws yX0_rememberStates cX0_rememberStates 2 none) 1 12 g [.ref (ga g [11, c, 0])] (xR g (xD h) (sX I c X) (xFh h) n) none (xR g (xD h) (sX I c (sRem X 8)) (xFh h) n) 0 0 := by
  refine xM.of (by decide) (Nat.le_of_ble_eq_true rfl) ?_
  intro P_ e_ s m_ bl_ mt_ cd_ ls hx hb hr hown hlocks hml hnm hE hK hts hH hS hl
  have hl : lv_has ls 2 [(0, .ref (ga g [11, c, 0]))] := hl
  refine lv_iconst (v := 0) hx hb dX0_rememberStates_0 (by decide) ?_
  refine lv_istore_n (lv' := [(1, .int 0), (0, .ref (ga g [11, c, 0]))]) hx hb dX0_rememberStates_1 rfl hl (by decide) rfl (fun ls hl => ?_)
  have L2 : ∀ (fu : Nat) (i : Nat) (Y : xX) (H : Heap) (locs : List Loc) (ls : Array Slot), (i ≤ 8) → (Y = sRem X i) → 8 - i < fu → xR g (xD h) (sX I c Y) (xFh h) n H → va_S (gA g) s.heap H locs → lv_has ls 2 [(0, .ref (ga g [11, c, 0])), (1, .int (nI i))] → W P_ l e_ { frames := 1, cells := 0, slots := 0, locals := 12 } s m_ ([.ref (ga g [11, c, 0])] : List Value).toArray bl_ mt_ cd_ H locs 0 0 (MQ bl_ (xQc g none (xR g (xD h) (sX I c (sRem X 8)) (xFh h) n)) ([.ref (ga g [11, c, 0])] : List Value).toArray s 0 0 (gA g)) (F0 m_ 2 ls []) := by
    intro fu
    induction fu with
    | zero => intro i Y H locs ls hi hY hfu; exact absurd hfu (Nat.not_lt_zero _)
    | succ fu ih2 =>
      intro i Y H locs ls hi hY hfu hH hS hl
      refine lv_iload_n hx hb dX0_rememberStates_2 rfl (lv_at hl 1 rfl) ?_
      refine lv_bipush (v := 8) hx hb dX0_rememberStates_3 (by decide) ?_
      refine lv_icmp_ge (tgt := 26) hx hb dX0_rememberStates_5 (by decide) (fun c_5 => ?_) (fun c_5 => ?_)
      · skip
        have c_5 := (nI_leI (a := 8) (b := i) (by omega) (by omega)).mp c_5
        exact x_vret hx hb hr hlocks hS dX0_rememberStates_26 (by rw [show (8 : Nat) = i by omega, ← hY]; exact hH)
      · skip
        have c_5 : ¬ _ := fun z_ => c_5 ((nI_leI (a := 8) (b := i) (by omega) (by omega)).mpr z_)
        refine lv_aload_n hx hb dX0_rememberStates_8 rfl (lv_at hl 0 rfl) ?_
        refine x_get (C := RX0) (T := TX0) (N := 11) (ci := 0) hx hb hts iu0 hown hK hH (id := [11, c, 0]) (by first | trivial | (simp only [xD]; omega) | (simp [xD]; done) | (simp [xD]; omega)) rfl rfl (by decide) 3 (by decide) (hts _ tw94) (fun _ h9 => h9) (sX_at _ _ _ _) (v := .ref (ga g [11, c, 3])) rfl dX0_rememberStates_9 ?_
        refine lv_iload_n hx hb dX0_rememberStates_12 rfl (lv_at hl 1 rfl) ?_
        refine lv_aload_n hx hb dX0_rememberStates_13 rfl (lv_at hl 0 rfl) ?_
        refine x_get (C := RX0) (T := TX0) (N := 11) (ci := 0) hx hb hts iu0 hown hK hH (id := [11, c, 0]) (by first | trivial | (simp only [xD]; omega) | (simp [xD]; done) | (simp [xD]; omega)) rfl rfl (by decide) 2 (by decide) (hts _ tw93) (fun _ h9 => h9) (sX_at _ _ _ _) (v := .ref (ga g [11, c, 2])) rfl dX0_rememberStates_14 ?_
        refine lv_iload_n hx hb dX0_rememberStates_17 rfl (lv_at hl 1 rfl) ?_
        refine x_cald hx hb hK hH (id := [11, c, 2]) (by first | trivial | (simp only [xD]; omega) | (simp [xD]; done) | (simp [xD]; omega)) (L := 8) rfl (sX_at _ _ _ _) i rfl (by omega) (by decide) dX0_rememberStates_18 ?_
        obtain ⟨X1_, hX1_⟩ : ∃ z, z = up2 Y 3 i (Y 2 i) := ⟨_, rfl⟩
        refine x_cast hx hb hK hH hS (id := [11, c, 3]) (by first | trivial | (simp only [xD]; omega) | (simp [xD]; done) | (simp [xD]; omega)) (L := 8) rfl i rfl (by omega) (by decide) (by rw [hY, sRem_2]; exact hch i) ((sX_up _ _ _ _ _ _).trans (congrArg (sX I c) hX1_.symm)) dX0_rememberStates_19 (fun H locs hH hS => ?_)
        refine lv_iinc (v := (nI (i + 1))) (lv' := [(1, .int (nI (i + 1))), (0, .ref (ga g [11, c, 0]))]) hx hb dX0_rememberStates_20 hl (k := 1) rfl (by first | rfl | exact nI_1 _ | exact nI_add _ _) (by decide) rfl (fun ls hl => ?_)
        refine lv_goto (tgt := 2) hx hb dX0_rememberStates_23 (by decide) ?_
        exact ih2 (i + 1) X1_ _ _ _ (by omega) (by rw [hX1_, hY]; exact sRem_s X i) (by omega) hH hS (lv_sub hl [1, 0] rfl)
  exact L2 _ 0 X _ _ _ (by omega) (sRem_0 X).symm (Nat.lt_succ_self _) hH hS (lv_sub hl [1, 0] rfl)

set_option maxHeartbeats 1000000 in
set_option maxRecDepth 100000 in
theorem c_X0_changedStepsBut (l : Launch) (g : xG) (h : xS) (I : xI) (n c : Nat) (X : xX) (hc : c < sNc h ∨ c = 4) (y : Int32) : xM l yX0_changedStepsBut (xws yX0_changedStepsBut cX0_changedStepsBut 4 (some FieldType.int)) 1 12 g [.ref (ga g [11, c, 0]), .int y] (xR g (xD h) (sX I c X) (xFh h) n) (some (.int (nI (sChg X y 8)))) (xR g (xD h) (sX I c X) (xFh h) n) 0 0 := by
  refine xM.of (by decide) (Nat.le_of_ble_eq_true rfl) ?_
  intro P_ e_ s m_ bl_ mt_ cd_ ls hx hb hr hown hlocks hml hnm hE hK hts hH hS hl
  have hl : lv_has ls 4 [(0, .ref (ga g [11, c, 0])), (1, .int y)] := hl
  refine lv_iconst (v := 0) hx hb dX0_changedStepsBut_0 (by decide) ?_
  refine lv_istore_n (lv' := [(2, .int 0), (0, .ref (ga g [11, c, 0])), (1, .int y)]) hx hb dX0_changedStepsBut_1 rfl hl (by decide) rfl (fun ls hl => ?_)
  refine lv_iconst (v := 0) hx hb dX0_changedStepsBut_2 (by decide) ?_
  refine lv_istore_n (lv' := [(3, .int 0), (2, .int 0), (0, .ref (ga g [11, c, 0])), (1, .int y)]) hx hb dX0_changedStepsBut_3 rfl hl (by decide) rfl (fun ls hl => ?_)
  have L4 : ∀ (fu : Nat) (i : Nat) (a : Nat) (H : Heap) (locs : List Loc) (ls : Array Slot), (i ≤ 8) → (a = sChg X y i) → 8 - i < fu → xR g (xD h) (sX I c X) (xFh h) n H → va_S (gA g) s.heap H locs → lv_has ls 4 [(0, .ref (ga g [11, c, 0])), (1, .int y), (2, .int (nI a)), (3, .int (nI i))] → W P_ l e_ { frames := 1, cells := 0, slots := 0, locals := 12 } s m_ ([.ref (ga g [11, c, 0]), .int y] : List Value).toArray bl_ mt_ cd_ H locs 0 0 (MQ bl_ (xQc g (some (.int (nI (sChg X y 8)))) (xR g (xD h) (sX I c X) (xFh h) n)) ([.ref (ga g [11, c, 0]), .int y] : List Value).toArray s 0 0 (gA g)) (F0 m_ 4 ls []) := by
    intro fu
    induction fu with
    | zero => intro i a H locs ls hi ha hfu; exact absurd hfu (Nat.not_lt_zero _)
    | succ fu ih4 =>
      intro i a H locs ls hi ha hfu hH hS hl
      refine lv_iload_n hx hb dX0_changedStepsBut_4 rfl (lv_at hl 3 rfl) ?_
      refine lv_bipush (v := 8) hx hb dX0_changedStepsBut_5 (by decide) ?_
      refine lv_icmp_ge (tgt := 39) hx hb dX0_changedStepsBut_7 (by decide) (fun c_7 => ?_) (fun c_7 => ?_)
      · skip
        have c_7 := (nI_leI (a := 8) (b := i) (by omega) (by omega)).mp c_7
        refine lv_iload_n hx hb dX0_changedStepsBut_39 rfl (lv_at hl 2 rfl) ?_
        exact x_iret hx hb hr hlocks hS dX0_changedStepsBut_40 (by rw [ha, show (8 : Nat) = i by omega]) hH
      · skip
        have c_7 : ¬ _ := fun z_ => c_7 ((nI_leI (a := 8) (b := i) (by omega) (by omega)).mpr z_)
        refine lv_iload_n hx hb dX0_changedStepsBut_10 rfl (lv_at hl 3 rfl) ?_
        refine lv_iload_n hx hb dX0_changedStepsBut_11 rfl (lv_at hl 1 rfl) ?_
        refine lv_icmp_eq (tgt := 33) hx hb dX0_changedStepsBut_12 (by decide) (fun c_12 => ?_) (fun c_12 => ?_)
        · skip
          refine lv_iinc (v := (nI (i + 1))) (lv' := [(3, .int (nI (i + 1))), (0, .ref (ga g [11, c, 0])), (1, .int y), (2, .int (nI a))]) hx hb dX0_changedStepsBut_33 hl (k := 3) rfl (by first | rfl | exact nI_1 _ | exact nI_add _ _) (by decide) rfl (fun ls hl => ?_)
          refine lv_goto (tgt := 4) hx hb dX0_changedStepsBut_36 (by decide) ?_
          exact ih4 (i + 1) a _ _ _ (by omega) (by show a = _ + (if _ then 1 else 0); rw [← ha]; first | (rw [if_pos (by simp [*])]; done) | (rw [if_neg (by simp [*])]; rfl)) (by omega) hH hS (lv_sub hl [1, 2, 3, 0] rfl)
        · skip
          refine lv_aload_n hx hb dX0_changedStepsBut_15 rfl (lv_at hl 0 rfl) ?_
          refine x_get (C := RX0) (T := TX0) (N := 11) (ci := 0) hx hb hts iu0 hown hK hH (id := [11, c, 0]) (by first | trivial | (simp only [xD]; omega) | (simp [xD]; done) | (simp [xD]; omega)) rfl rfl (by decide) 2 (by decide) (hts _ tw93) (fun _ h9 => h9) (sX_at _ _ _ _) (v := .ref (ga g [11, c, 2])) rfl dX0_changedStepsBut_16 ?_
          refine lv_iload_n hx hb dX0_changedStepsBut_19 rfl (lv_at hl 3 rfl) ?_
          refine x_cald hx hb hK hH (id := [11, c, 2]) (by first | trivial | (simp only [xD]; omega) | (simp [xD]; done) | (simp [xD]; omega)) (L := 8) rfl (sX_at _ _ _ _) i rfl (by omega) (by decide) dX0_changedStepsBut_20 ?_
          refine lv_aload_n hx hb dX0_changedStepsBut_21 rfl (lv_at hl 0 rfl) ?_
          refine x_get (C := RX0) (T := TX0) (N := 11) (ci := 0) hx hb hts iu0 hown hK hH (id := [11, c, 0]) (by first | trivial | (simp only [xD]; omega) | (simp [xD]; done) | (simp [xD]; omega)) rfl rfl (by decide) 3 (by decide) (hts _ tw94) (fun _ h9 => h9) (sX_at _ _ _ _) (v := .ref (ga g [11, c, 3])) rfl dX0_changedStepsBut_22 ?_
          refine lv_iload_n hx hb dX0_changedStepsBut_25 rfl (lv_at hl 3 rfl) ?_
          refine x_cald hx hb hK hH (id := [11, c, 3]) (by first | trivial | (simp only [xD]; omega) | (simp [xD]; done) | (simp [xD]; omega)) (L := 8) rfl (sX_at _ _ _ _) i rfl (by omega) (by decide) dX0_changedStepsBut_26 ?_
          refine lv_icmp_eq (tgt := 33) hx hb dX0_changedStepsBut_27 (by decide) (fun c_27 => ?_) (fun c_27 => ?_)
          · skip
            refine lv_iinc (v := (nI (i + 1))) (lv' := [(3, .int (nI (i + 1))), (0, .ref (ga g [11, c, 0])), (1, .int y), (2, .int (nI a))]) hx hb dX0_changedStepsBut_33 hl (k := 3) rfl (by first | rfl | exact nI_1 _ | exact nI_add _ _) (by decide) rfl (fun ls hl => ?_)
            refine lv_goto (tgt := 4) hx hb dX0_changedStepsBut_36 (by decide) ?_
            exact ih4 (i + 1) a _ _ _ (by omega) (by show a = _ + (if _ then 1 else 0); rw [← ha]; first | (rw [if_pos (by simp [*])]; done) | (rw [if_neg (by simp [*])]; rfl)) (by omega) hH hS (lv_sub hl [1, 2, 3, 0] rfl)
          · skip
            refine lv_iinc (v := (nI (a + 1))) (lv' := [(2, .int (nI (a + 1))), (0, .ref (ga g [11, c, 0])), (1, .int y), (3, .int (nI i))]) hx hb dX0_changedStepsBut_30 hl (k := 2) rfl (by first | rfl | exact nI_1 _ | exact nI_add _ _) (by decide) rfl (fun ls hl => ?_)
            refine lv_iinc (v := (nI (i + 1))) (lv' := [(3, .int (nI (i + 1))), (2, .int (nI (a + 1))), (0, .ref (ga g [11, c, 0])), (1, .int y)]) hx hb dX0_changedStepsBut_33 hl (k := 3) rfl (by first | rfl | exact nI_1 _ | exact nI_add _ _) (by decide) rfl (fun ls hl => ?_)
            refine lv_goto (tgt := 4) hx hb dX0_changedStepsBut_36 (by decide) ?_
            exact ih4 (i + 1) ((a + 1)) _ _ _ (by omega) (by show (a + 1) = _ + (if _ then 1 else 0); rw [← ha]; first | (rw [if_pos (by simp [*])]; done) | (rw [if_neg (by simp [*])]; rfl)) (by omega) hH hS (lv_sub hl [2, 3, 1, 0] rfl)
  exact L4 _ 0 0 _ _ _ (by omega) rfl (Nat.lt_succ_self _) hH hS (lv_sub hl [2, 3, 1, 0] rfl)

set_option maxHeartbeats 1000000 in
set_option maxRecDepth 100000 in
theorem c_X0_stepsInState (l : Launch) (g : xG) (h : xS) (I : xI) (n c : Nat) (X : xX) (hc : c < sNc h ∨ c = 4) (p : Nat) (hp : sPl h c = p) (hpp : p < sNp h) (hW : xWp h I p) (v : Int32) (hch : xCh X) : xM l yX0_stepsInState (xws yX0_stepsInState cX0_stepsInState 4 (some FieldType.int)) 2 33 g [.ref (ga g [11, c, 0]), .int v] (xR g (xD h) (sX I c X) (xFh h) n) (some (.int (nI (sCnt X v (sSz h p))))) (xR g (xD h) (sX I c X) (xFh h) n) 0 0 := by
  refine xM.of (by decide) (Nat.le_of_ble_eq_true rfl) ?_
  intro P_ e_ s m_ bl_ mt_ cd_ ls hx hb hr hown hlocks hml hnm hE hK hts hH hS hl
  have hl : lv_has ls 4 [(0, .ref (ga g [11, c, 0])), (1, .int v)] := hl
  have h8 := hW.1
  refine lv_iconst (v := 0) hx hb dX0_stepsInState_0 (by decide) ?_
  refine lv_istore_n (lv' := [(2, .int 0), (0, .ref (ga g [11, c, 0])), (1, .int v)]) hx hb dX0_stepsInState_1 rfl hl (by decide) rfl (fun ls hl => ?_)
  refine lv_iconst (v := 0) hx hb dX0_stepsInState_2 (by decide) ?_
  refine lv_istore_n (lv' := [(3, .int 0), (2, .int 0), (0, .ref (ga g [11, c, 0])), (1, .int v)]) hx hb dX0_stepsInState_3 rfl hl (by decide) rfl (fun ls hl => ?_)
  have L4 : ∀ (fu : Nat) (i : Nat) (a : Nat) (H : Heap) (locs : List Loc) (ls : Array Slot), (i ≤ sSz h p) → (a = sCnt X v i) → sSz h p - i < fu → xR g (xD h) (sX I c X) (xFh h) n H → va_S (gA g) s.heap H locs → lv_has ls 4 [(0, .ref (ga g [11, c, 0])), (1, .int v), (2, .int (nI a)), (3, .int (nI i))] → W P_ l e_ { frames := 2, cells := 0, slots := 0, locals := 33 } s m_ ([.ref (ga g [11, c, 0]), .int v] : List Value).toArray bl_ mt_ cd_ H locs 0 0 (MQ bl_ (xQc g (some (.int (nI (sCnt X v (sSz h p))))) (xR g (xD h) (sX I c X) (xFh h) n)) ([.ref (ga g [11, c, 0]), .int v] : List Value).toArray s 0 0 (gA g)) (F0 m_ 4 ls []) := by
    intro fu
    induction fu with
    | zero => intro i a H locs ls hi ha hfu; exact absurd hfu (Nat.not_lt_zero _)
    | succ fu ih4 =>
      intro i a H locs ls hi ha hfu hH hS hl
      refine lv_iload_n hx hb dX0_stepsInState_4 rfl (lv_at hl 3 rfl) ?_
      refine lv_aload_n hx hb dX0_stepsInState_5 rfl (lv_at hl 0 rfl) ?_
      refine x_get (C := RX0) (T := TX0) (N := 11) (ci := 0) hx hb hts iu0 hown hK hH (id := [11, c, 0]) (by first | trivial | (simp only [xD]; omega) | (simp [xD]; done) | (simp [xD]; omega)) rfl rfl (by decide) 0 (by decide) (hts _ tw90) (fun _ h9 => h9) (sX_at _ _ _ _) (v := .ref (ga g [5, p])) (by rw [← hp]; rfl) dX0_stepsInState_6 ?_
      refine x_get (C := RX4) (T := TX4) (N := 4) (ci := 4) hx hb hts iu4 hown hK hH (id := [5, p]) (by first | trivial | (simp only [xD]; omega) | (simp [xD]; done) | (simp [xD]; omega)) rfl rfl (by decide) 2 (by decide) (hts _ tw74) (fun _ h9 => h9) rfl (v := .int (nI (sSz h p))) (congrArg Value.int hW.2.2.1) dX0_stepsInState_9 ?_
      refine lv_icmp_ge (tgt := 33) hx hb dX0_stepsInState_12 (by decide) (fun c_12 => ?_) (fun c_12 => ?_)
      · skip
        have c_12 := (nI_leI (a := (sSz h p)) (b := i) (by omega) (by omega)).mp c_12
        refine lv_iload_n hx hb dX0_stepsInState_33 rfl (lv_at hl 2 rfl) ?_
        exact x_iret hx hb hr hlocks hS dX0_stepsInState_34 (by rw [ha, show sSz h p = i by omega]) hH
      · skip
        have c_12 : ¬ _ := fun z_ => c_12 ((nI_leI (a := (sSz h p)) (b := i) (by omega) (by omega)).mpr z_)
        refine lv_aload_n hx hb dX0_stepsInState_15 rfl (lv_at hl 0 rfl) ?_
        refine lv_iload_n hx hb dX0_stepsInState_16 rfl (lv_at hl 3 rfl) ?_
        refine x_V1 hx hb hml hown hE hS hl.1 cyX0_stateOf tw518 (c_X0_stateOf l g h I n c X hc i (by omega) hch) ⟨Nat.le_of_ble_eq_true rfl, Nat.le_of_ble_eq_true rfl⟩ ⟨Nat.le_of_ble_eq_true rfl, Nat.le_of_ble_eq_true rfl⟩ (x_recv hK hH (id := [11, c, 0]) (by first | trivial | (simp only [xD]; omega) | (simp [xD]; done) | (simp [xD]; omega)) (ci := 0) rfl (by decide) rfl) hH rfl rfl (Nat.le_of_ble_eq_true rfl) dX0_stepsInState_17 (fun H locs hH hS => ?_)
        refine lv_iload_n hx hb dX0_stepsInState_20 rfl (lv_at hl 1 rfl) ?_
        refine lv_icmp_ne (tgt := 27) hx hb dX0_stepsInState_21 (by decide) (fun c_21 => ?_) (fun c_21 => ?_)
        · skip
          refine lv_iinc (v := (nI (i + 1))) (lv' := [(3, .int (nI (i + 1))), (0, .ref (ga g [11, c, 0])), (1, .int v), (2, .int (nI a))]) hx hb dX0_stepsInState_27 hl (k := 3) rfl (by first | rfl | exact nI_1 _ | exact nI_add _ _) (by decide) rfl (fun ls hl => ?_)
          refine lv_goto (tgt := 4) hx hb dX0_stepsInState_30 (by decide) ?_
          exact ih4 (i + 1) a _ _ _ (by omega) (by show a = _ + (if _ then 1 else 0); rw [← ha]; first | (rw [if_pos (by simp [*])]; done) | (rw [if_neg (by simp [*])]; rfl)) (by omega) hH hS (lv_sub hl [1, 2, 3, 0] rfl)
        · skip
          refine lv_iinc (v := (nI (a + 1))) (lv' := [(2, .int (nI (a + 1))), (0, .ref (ga g [11, c, 0])), (1, .int v), (3, .int (nI i))]) hx hb dX0_stepsInState_24 hl (k := 2) rfl (by first | rfl | exact nI_1 _ | exact nI_add _ _) (by decide) rfl (fun ls hl => ?_)
          refine lv_iinc (v := (nI (i + 1))) (lv' := [(3, .int (nI (i + 1))), (2, .int (nI (a + 1))), (0, .ref (ga g [11, c, 0])), (1, .int v)]) hx hb dX0_stepsInState_27 hl (k := 3) rfl (by first | rfl | exact nI_1 _ | exact nI_add _ _) (by decide) rfl (fun ls hl => ?_)
          refine lv_goto (tgt := 4) hx hb dX0_stepsInState_30 (by decide) ?_
          exact ih4 (i + 1) ((a + 1)) _ _ _ (by omega) (by show (a + 1) = _ + (if _ then 1 else 0); rw [← ha]; first | (rw [if_pos (by simp [*])]; done) | (rw [if_neg (by simp [*])]; rfl)) (by omega) hH hS (lv_sub hl [2, 3, 1, 0] rfl)
  exact L4 _ 0 0 _ _ _ (by omega) rfl (Nat.lt_succ_self _) hH hS (lv_sub hl [2, 3, 1, 0] rfl)

set_option maxHeartbeats 1000000 in
set_option maxRecDepth 100000 in
theorem c_X0_lateTasks (l : Launch) (g : xG) (h : xS) (I : xI) (n c : Nat) (X : xX) (hc : c < sNc h ∨ c = 4) (p : Nat) (hp : sPl h c = p) (hpp : p < sNp h) (hW : xWp h I p) (hch : xCh X) : xM l yX0_lateTasks (xws yX0_lateTasks cX0_lateTasks 3 (some FieldType.int)) 3 55 g [.ref (ga g [11, c, 0])] (xR g (xD h) (sX I c X) (xFh h) n) (some (.int (nI (sLat (vP I p) X (sSz h p))))) (xR g (xD h) (sX I c X) (xFh h) n) 0 0 := by
  refine xM.of (by decide) (Nat.le_of_ble_eq_true rfl) ?_
  intro P_ e_ s m_ bl_ mt_ cd_ ls hx hb hr hown hlocks hml hnm hE hK hts hH hS hl
  have hl : lv_has ls 3 [(0, .ref (ga g [11, c, 0]))] := hl
  have h8 := hW.1
  refine lv_iconst (v := 0) hx hb dX0_lateTasks_0 (by decide) ?_
  refine lv_istore_n (lv' := [(1, .int 0), (0, .ref (ga g [11, c, 0]))]) hx hb dX0_lateTasks_1 rfl hl (by decide) rfl (fun ls hl => ?_)
  refine lv_iconst (v := 0) hx hb dX0_lateTasks_2 (by decide) ?_
  refine lv_istore_n (lv' := [(2, .int 0), (1, .int 0), (0, .ref (ga g [11, c, 0]))]) hx hb dX0_lateTasks_3 rfl hl (by decide) rfl (fun ls hl => ?_)
  have L4 : ∀ (fu : Nat) (i : Nat) (a : Nat) (H : Heap) (locs : List Loc) (ls : Array Slot), (i ≤ sSz h p) → (a = sLat (vP I p) X i) → sSz h p - i < fu → xR g (xD h) (sX I c X) (xFh h) n H → va_S (gA g) s.heap H locs → lv_has ls 3 [(0, .ref (ga g [11, c, 0])), (1, .int (nI a)), (2, .int (nI i))] → W P_ l e_ { frames := 3, cells := 0, slots := 0, locals := 55 } s m_ ([.ref (ga g [11, c, 0])] : List Value).toArray bl_ mt_ cd_ H locs 0 0 (MQ bl_ (xQc g (some (.int (nI (sLat (vP I p) X (sSz h p))))) (xR g (xD h) (sX I c X) (xFh h) n)) ([.ref (ga g [11, c, 0])] : List Value).toArray s 0 0 (gA g)) (F0 m_ 4 ls []) := by
    intro fu
    induction fu with
    | zero => intro i a H locs ls hi ha hfu; exact absurd hfu (Nat.not_lt_zero _)
    | succ fu ih4 =>
      intro i a H locs ls hi ha hfu hH hS hl
      refine lv_iload_n hx hb dX0_lateTasks_4 rfl (lv_at hl 2 rfl) ?_
      refine lv_aload_n hx hb dX0_lateTasks_5 rfl (lv_at hl 0 rfl) ?_
      refine x_get (C := RX0) (T := TX0) (N := 11) (ci := 0) hx hb hts iu0 hown hK hH (id := [11, c, 0]) (by first | trivial | (simp only [xD]; omega) | (simp [xD]; done) | (simp [xD]; omega)) rfl rfl (by decide) 0 (by decide) (hts _ tw90) (fun _ h9 => h9) (sX_at _ _ _ _) (v := .ref (ga g [5, p])) (by rw [← hp]; rfl) dX0_lateTasks_6 ?_
      refine x_get (C := RX4) (T := TX4) (N := 4) (ci := 4) hx hb hts iu4 hown hK hH (id := [5, p]) (by first | trivial | (simp only [xD]; omega) | (simp [xD]; done) | (simp [xD]; omega)) rfl rfl (by decide) 2 (by decide) (hts _ tw74) (fun _ h9 => h9) rfl (v := .int (nI (sSz h p))) (congrArg Value.int hW.2.2.1) dX0_lateTasks_9 ?_
      refine lv_icmp_ge (tgt := 40) hx hb dX0_lateTasks_12 (by decide) (fun c_12 => ?_) (fun c_12 => ?_)
      · skip
        have c_12 := (nI_leI (a := (sSz h p)) (b := i) (by omega) (by omega)).mp c_12
        refine lv_iload_n hx hb dX0_lateTasks_40 rfl (lv_at hl 1 rfl) ?_
        exact x_iret hx hb hr hlocks hS dX0_lateTasks_41 (by rw [ha, show sSz h p = i by omega]) hH
      · skip
        have c_12 : ¬ _ := fun z_ => c_12 ((nI_leI (a := (sSz h p)) (b := i) (by omega) (by omega)).mpr z_)
        refine lv_aload_n hx hb dX0_lateTasks_15 rfl (lv_at hl 0 rfl) ?_
        refine lv_iload_n hx hb dX0_lateTasks_16 rfl (lv_at hl 2 rfl) ?_
        refine x_V1 hx hb hml hown hE hS hl.1 cyX0_isActiveTask tw527 (c_X0_isActiveTask l g h I n c X hc p hp hpp hW i (by omega) hch) ⟨Nat.le_of_ble_eq_true rfl, Nat.le_of_ble_eq_true rfl⟩ ⟨Nat.le_of_ble_eq_true rfl, Nat.le_of_ble_eq_true rfl⟩ (x_recv hK hH (id := [11, c, 0]) (by first | trivial | (simp only [xD]; omega) | (simp [xD]; done) | (simp [xD]; omega)) (ci := 0) rfl (by decide) rfl) hH rfl rfl (Nat.le_of_ble_eq_true rfl) dX0_lateTasks_17 (fun H locs hH hS => ?_)
        refine lv_if_eq (tgt := 34) hx hb dX0_lateTasks_20 (by decide) (fun c_20 => ?_) (fun c_20 => ?_)
        · skip
          refine lv_iinc (v := (nI (i + 1))) (lv' := [(2, .int (nI (i + 1))), (0, .ref (ga g [11, c, 0])), (1, .int (nI a))]) hx hb dX0_lateTasks_34 hl (k := 2) rfl (by first | rfl | exact nI_1 _ | exact nI_add _ _) (by decide) rfl (fun ls hl => ?_)
          refine lv_goto (tgt := 4) hx hb dX0_lateTasks_37 (by decide) ?_
          exact ih4 (i + 1) a _ _ _ (by omega) (by show a = _ + (if _ then 1 else 0); rw [← ha]; rw [if_neg (fun z_ => by rw [(b01_eq0 _).mp c_20] at z_; cases z_.1)]; rfl) (by omega) hH hS (lv_sub hl [1, 2, 0] rfl)
        · skip
          refine lv_aload_n hx hb dX0_lateTasks_23 rfl (lv_at hl 0 rfl) ?_
          refine lv_iload_n hx hb dX0_lateTasks_24 rfl (lv_at hl 2 rfl) ?_
          refine x_V1 hx hb hml hown hE hS hl.1 cyX0_daysUntilLate tw636 (c_X0_daysUntilLate l g h I n c X hc p hp hpp hW i (by omega)) ⟨Nat.le_of_ble_eq_true rfl, Nat.le_of_ble_eq_true rfl⟩ ⟨Nat.le_of_ble_eq_true rfl, Nat.le_of_ble_eq_true rfl⟩ (x_recv hK hH (id := [11, c, 0]) (by first | trivial | (simp only [xD]; omega) | (simp [xD]; done) | (simp [xD]; omega)) (ci := 0) rfl (by decide) rfl) hH rfl rfl (Nat.le_of_ble_eq_true rfl) dX0_lateTasks_25 (fun H locs hH hS => ?_)
          refine lv_if_gt (tgt := 34) hx hb dX0_lateTasks_28 (by decide) (fun c_28 => ?_) (fun c_28 => ?_)
          · skip
            refine lv_iinc (v := (nI (i + 1))) (lv' := [(2, .int (nI (i + 1))), (0, .ref (ga g [11, c, 0])), (1, .int (nI a))]) hx hb dX0_lateTasks_34 hl (k := 2) rfl (by first | rfl | exact nI_1 _ | exact nI_add _ _) (by decide) rfl (fun ls hl => ?_)
            refine lv_goto (tgt := 4) hx hb dX0_lateTasks_37 (by decide) ?_
            exact ih4 (i + 1) a _ _ _ (by omega) (by show a = _ + (if _ then 1 else 0); rw [← ha]; rw [if_neg (fun z_ => i_lt_nle c_28 z_.2)]; rfl) (by omega) hH hS (lv_sub hl [1, 2, 0] rfl)
          · skip
            refine lv_iinc (v := (nI (a + 1))) (lv' := [(1, .int (nI (a + 1))), (0, .ref (ga g [11, c, 0])), (2, .int (nI i))]) hx hb dX0_lateTasks_31 hl (k := 1) rfl (by first | rfl | exact nI_1 _ | exact nI_add _ _) (by decide) rfl (fun ls hl => ?_)
            refine lv_iinc (v := (nI (i + 1))) (lv' := [(2, .int (nI (i + 1))), (1, .int (nI (a + 1))), (0, .ref (ga g [11, c, 0]))]) hx hb dX0_lateTasks_34 hl (k := 2) rfl (by first | rfl | exact nI_1 _ | exact nI_add _ _) (by decide) rfl (fun ls hl => ?_)
            refine lv_goto (tgt := 4) hx hb dX0_lateTasks_37 (by decide) ?_
            exact ih4 (i + 1) ((a + 1)) _ _ _ (by omega) (by show (a + 1) = _ + (if _ then 1 else 0); rw [← ha]; rw [if_pos ⟨b01_ne0 c_20, Int32.not_lt.mp c_28⟩]) (by omega) hH hS (lv_sub hl [2, 1, 0] rfl)
  exact L4 _ 0 0 _ _ _ (by omega) rfl (Nat.lt_succ_self _) hH hS (lv_sub hl [2, 1, 0] rfl)

set_option maxHeartbeats 1000000 in
set_option maxRecDepth 100000 in
theorem c_X0_isAtItsEnd (l : Launch) (g : xG) (h : xS) (I : xI) (n c : Nat) (X : xX) (hc : c < sNc h ∨ c = 4) (p : Nat) (hp : sPl h c = p) (hpp : p < sNp h) (hW : xWp h I p) (hch : xCh X) : xM l yX0_isAtItsEnd (xws yX0_isAtItsEnd cX0_isAtItsEnd 3 (some FieldType.boolean)) 2 33 g [.ref (ga g [11, c, 0])] (xR g (xD h) (sX I c X) (xFh h) n) (some (.int (b01 (sOvr (vP I p) X (sSz h p))))) (xR g (xD h) (sX I c X) (xFh h) n) 0 0 := by
  refine xM.of (by decide) (Nat.le_of_ble_eq_true rfl) ?_
  intro P_ e_ s m_ bl_ mt_ cd_ ls hx hb hr hown hlocks hml hnm hE hK hts hH hS hl
  have hl : lv_has ls 3 [(0, .ref (ga g [11, c, 0]))] := hl
  have h8 := hW.1
  refine lv_iconst (v := 0) hx hb dX0_isAtItsEnd_0 (by decide) ?_
  refine lv_istore_n (lv' := [(1, .int 0), (0, .ref (ga g [11, c, 0]))]) hx hb dX0_isAtItsEnd_1 rfl hl (by decide) rfl (fun ls hl => ?_)
  have L2 : ∀ (fu : Nat) (i : Nat) (H : Heap) (locs : List Loc) (ls : Array Slot), (i ≤ sSz h p) → (sOvr (vP I p) X i = true) → sSz h p - i < fu → xR g (xD h) (sX I c X) (xFh h) n H → va_S (gA g) s.heap H locs → lv_has ls 3 [(0, .ref (ga g [11, c, 0])), (1, .int (nI i))] → W P_ l e_ { frames := 2, cells := 0, slots := 0, locals := 33 } s m_ ([.ref (ga g [11, c, 0])] : List Value).toArray bl_ mt_ cd_ H locs 0 0 (MQ bl_ (xQc g (some (.int (b01 (sOvr (vP I p) X (sSz h p))))) (xR g (xD h) (sX I c X) (xFh h) n)) ([.ref (ga g [11, c, 0])] : List Value).toArray s 0 0 (gA g)) (F0 m_ 2 ls []) := by
    intro fu
    induction fu with
    | zero => intro i H locs ls hi ha hfu; exact absurd hfu (Nat.not_lt_zero _)
    | succ fu ih2 =>
      intro i H locs ls hi ha hfu hH hS hl
      refine lv_iload_n hx hb dX0_isAtItsEnd_2 rfl (lv_at hl 1 rfl) ?_
      refine lv_aload_n hx hb dX0_isAtItsEnd_3 rfl (lv_at hl 0 rfl) ?_
      refine x_get (C := RX0) (T := TX0) (N := 11) (ci := 0) hx hb hts iu0 hown hK hH (id := [11, c, 0]) (by first | trivial | (simp only [xD]; omega) | (simp [xD]; done) | (simp [xD]; omega)) rfl rfl (by decide) 0 (by decide) (hts _ tw90) (fun _ h9 => h9) (sX_at _ _ _ _) (v := .ref (ga g [5, p])) (by rw [← hp]; rfl) dX0_isAtItsEnd_4 ?_
      refine x_get (C := RX4) (T := TX4) (N := 4) (ci := 4) hx hb hts iu4 hown hK hH (id := [5, p]) (by first | trivial | (simp only [xD]; omega) | (simp [xD]; done) | (simp [xD]; omega)) rfl rfl (by decide) 2 (by decide) (hts _ tw74) (fun _ h9 => h9) rfl (v := .int (nI (sSz h p))) (congrArg Value.int hW.2.2.1) dX0_isAtItsEnd_7 ?_
      refine lv_icmp_ge (tgt := 62) hx hb dX0_isAtItsEnd_10 (by decide) (fun c_10 => ?_) (fun c_10 => ?_)
      · skip
        have c_10 := (nI_leI (a := (sSz h p)) (b := i) (by omega) (by omega)).mp c_10
        refine lv_iconst (v := 1) hx hb dX0_isAtItsEnd_62 (by decide) ?_
        exact x_zret hx hb hr hlocks hS dX0_isAtItsEnd_63 rfl (b01_t (by rw [show sSz h p = i by omega]; exact ha)) hH
      · skip
        have c_10 : ¬ _ := fun z_ => c_10 ((nI_leI (a := (sSz h p)) (b := i) (by omega) (by omega)).mpr z_)
        refine lv_aload_n hx hb dX0_isAtItsEnd_13 rfl (lv_at hl 0 rfl) ?_
        refine x_get (C := RX0) (T := TX0) (N := 11) (ci := 0) hx hb hts iu0 hown hK hH (id := [11, c, 0]) (by first | trivial | (simp only [xD]; omega) | (simp [xD]; done) | (simp [xD]; omega)) rfl rfl (by decide) 0 (by decide) (hts _ tw90) (fun _ h9 => h9) (sX_at _ _ _ _) (v := .ref (ga g [5, p])) (by rw [← hp]; rfl) dX0_isAtItsEnd_14 ?_
        refine lv_iload_n hx hb dX0_isAtItsEnd_17 rfl (lv_at hl 1 rfl) ?_
        refine x_V1 hx hb hml hown hE hS hl.1 cyX4_stepAt tw517 (c_X4_stepAt l g h (sX I c X) n p i hpp (by omega) hW.1 hW.2.2.1) ⟨Nat.le_of_ble_eq_true rfl, Nat.le_of_ble_eq_true rfl⟩ ⟨Nat.le_of_ble_eq_true rfl, Nat.le_of_ble_eq_true rfl⟩ (x_recv hK hH (id := [5, p]) (by first | trivial | (simp only [xD]; omega) | (simp [xD]; done) | (simp [xD]; omega)) (ci := 4) rfl (by decide) rfl) hH rfl rfl (Nat.le_of_ble_eq_true rfl) dX0_isAtItsEnd_18 (fun H locs hH hS => ?_)
        refine lv_astore_n (lv' := [(2, .ref (ga g [7, p, i])), (0, .ref (ga g [11, c, 0])), (1, .int (nI i))]) hx hb dX0_isAtItsEnd_21 rfl hl (by decide) rfl (fun ls hl => ?_)
        refine lv_aload_n hx hb dX0_isAtItsEnd_22 rfl (lv_at hl 0 rfl) ?_
        refine lv_ifnull hx hb dX0_isAtItsEnd_23 ?_
        refine lv_aload_n hx hb dX0_isAtItsEnd_26 rfl (lv_at hl 0 rfl) ?_
        refine x_get (C := RX5) (T := TX5) (N := 7) (ci := 5) hx hb hts iu5 hown hK hH (id := [7, p, i]) (by first | trivial | (simp only [xD]; omega) | (simp [xD]; done) | (simp [xD]; omega)) rfl rfl (by decide) 1 (by decide) (hts _ tw329) (fun _ h9 => h9) rfl (v := .int (I [7, p, i] 1)) rfl dX0_isAtItsEnd_27 ?_
        refine lv_iconst (v := (-1)) hx hb dX0_isAtItsEnd_30 (by decide) ?_
        refine lv_icmp_ne (tgt := 56) hx hb dX0_isAtItsEnd_31 (by decide) (fun c_31 => ?_) (fun c_31 => ?_)
        · skip
          refine lv_iinc (v := (nI (i + 1))) (lv' := [(1, .int (nI (i + 1))), (2, .ref (ga g [7, p, i])), (0, .ref (ga g [11, c, 0]))]) hx hb dX0_isAtItsEnd_56 hl (k := 2) rfl (by first | rfl | exact nI_1 _ | exact nI_add _ _) (by decide) rfl (fun ls hl => ?_)
          refine lv_goto (tgt := 2) hx hb dX0_isAtItsEnd_59 (by decide) ?_
          exact ih2 (i + 1) _ _ _ (by omega) (by show (_ && (_ || _ || _)) = true; rw [ha]; simp [vP, *]) (by omega) hH hS (lv_sub hl [2, 0] rfl)
        · skip
          refine lv_aload_n hx hb dX0_isAtItsEnd_34 rfl (lv_at hl 1 rfl) ?_
          refine lv_iload_n hx hb dX0_isAtItsEnd_35 rfl (lv_at hl 2 rfl) ?_
          refine x_V1 hx hb hml hown hE hS hl.1 cyX0_stateOf tw518 (c_X0_stateOf l g h I n c X hc i (by omega) hch) ⟨Nat.le_of_ble_eq_true rfl, Nat.le_of_ble_eq_true rfl⟩ ⟨Nat.le_of_ble_eq_true rfl, Nat.le_of_ble_eq_true rfl⟩ (x_recv hK hH (id := [11, c, 0]) (by first | trivial | (simp only [xD]; omega) | (simp [xD]; done) | (simp [xD]; omega)) (ci := 0) rfl (by decide) rfl) hH rfl rfl (Nat.le_of_ble_eq_true rfl) dX0_isAtItsEnd_36 (fun H locs hH hS => ?_)
          refine lv_bipush (v := 99) hx hb dX0_isAtItsEnd_39 (by decide) ?_
          refine lv_icmp_eq (tgt := 56) hx hb dX0_isAtItsEnd_41 (by decide) (fun c_41 => ?_) (fun c_41 => ?_)
          · skip
            refine lv_iinc (v := (nI (i + 1))) (lv' := [(1, .int (nI (i + 1))), (2, .ref (ga g [7, p, i])), (0, .ref (ga g [11, c, 0]))]) hx hb dX0_isAtItsEnd_56 hl (k := 2) rfl (by first | rfl | exact nI_1 _ | exact nI_add _ _) (by decide) rfl (fun ls hl => ?_)
            refine lv_goto (tgt := 2) hx hb dX0_isAtItsEnd_59 (by decide) ?_
            exact ih2 (i + 1) _ _ _ (by omega) (by show (_ && (_ || _ || _)) = true; rw [ha]; simp [vP, *]) (by omega) hH hS (lv_sub hl [2, 0] rfl)
          · skip
            refine lv_aload_n hx hb dX0_isAtItsEnd_44 rfl (lv_at hl 1 rfl) ?_
            refine lv_iload_n hx hb dX0_isAtItsEnd_45 rfl (lv_at hl 2 rfl) ?_
            refine x_V1 hx hb hml hown hE hS hl.1 cyX0_stateOf tw518 (c_X0_stateOf l g h I n c X hc i (by omega) hch) ⟨Nat.le_of_ble_eq_true rfl, Nat.le_of_ble_eq_true rfl⟩ ⟨Nat.le_of_ble_eq_true rfl, Nat.le_of_ble_eq_true rfl⟩ (x_recv hK hH (id := [11, c, 0]) (by first | trivial | (simp only [xD]; omega) | (simp [xD]; done) | (simp [xD]; omega)) (ci := 0) rfl (by decide) rfl) hH rfl rfl (Nat.le_of_ble_eq_true rfl) dX0_isAtItsEnd_46 (fun H locs hH hS => ?_)
            refine lv_bipush (v := 120) hx hb dX0_isAtItsEnd_49 (by decide) ?_
            refine lv_icmp_eq (tgt := 56) hx hb dX0_isAtItsEnd_51 (by decide) (fun c_51 => ?_) (fun c_51 => ?_)
            · skip
              refine lv_iinc (v := (nI (i + 1))) (lv' := [(1, .int (nI (i + 1))), (2, .ref (ga g [7, p, i])), (0, .ref (ga g [11, c, 0]))]) hx hb dX0_isAtItsEnd_56 hl (k := 2) rfl (by first | rfl | exact nI_1 _ | exact nI_add _ _) (by decide) rfl (fun ls hl => ?_)
              refine lv_goto (tgt := 2) hx hb dX0_isAtItsEnd_59 (by decide) ?_
              exact ih2 (i + 1) _ _ _ (by omega) (by show (_ && (_ || _ || _)) = true; rw [ha]; simp [vP, *]) (by omega) hH hS (lv_sub hl [2, 0] rfl)
            · skip
              refine lv_iconst (v := 0) hx hb dX0_isAtItsEnd_54 (by decide) ?_
              exact x_zret hx hb hr hlocks hS dX0_isAtItsEnd_55 rfl (b01_f (sOvr_mono (i + 1) _ (by omega) (by show (_ && (_ || _ || _)) = false; rw [ha]; simp [vP, *]))) hH
  exact L2 _ 0 _ _ _ (by omega) rfl (Nat.lt_succ_self _) hH hS (lv_sub hl [1, 0] rfl)

set_option maxHeartbeats 1000000 in
set_option maxRecDepth 100000 in
theorem c_X0_sumOfClocks (l : Launch) (g : xG) (h : xS) (I : xI) (n c : Nat) (X : xX) (hc : c < sNc h ∨ c = 4) (p : Nat) (hp : sPl h c = p) (hpp : p < sNp h) (hW : xWp h I p)  : xM l yX0_sumOfClocks (xws yX0_sumOfClocks cX0_sumOfClocks 4 (some FieldType.long)) 2 33 g [.ref (ga g [11, c, 0])] (xR g (xD h) (sX I c X) (xFh h) n) (some (.long (sSum X (sSz h p)))) (xR g (xD h) (sX I c X) (xFh h) n) 0 0 := by
  refine xM.of (by decide) (Nat.le_of_ble_eq_true rfl) ?_
  intro P_ e_ s m_ bl_ mt_ cd_ ls hx hb hr hown hlocks hml hnm hE hK hts hH hS hl
  have hl : lv_has ls 4 [(0, .ref (ga g [11, c, 0]))] := hl
  have h8 := hW.1
  refine lv_lconst (v := 0) hx hb dX0_sumOfClocks_0 (by decide) ?_
  refine lv_lstore_n (lv' := [(1, .long 0), (0, .ref (ga g [11, c, 0]))]) hx hb dX0_sumOfClocks_1 rfl hl (by decide) rfl (fun ls hl => ?_)
  refine lv_iconst (v := 0) hx hb dX0_sumOfClocks_2 (by decide) ?_
  refine lv_istore_n (lv' := [(3, .int 0), (1, .long 0), (0, .ref (ga g [11, c, 0]))]) hx hb dX0_sumOfClocks_3 rfl hl (by decide) rfl (fun ls hl => ?_)
  have L4 : ∀ (fu : Nat) (i : Nat) (a : Int64) (H : Heap) (locs : List Loc) (ls : Array Slot), (i ≤ sSz h p) → (a = sSum X i) → sSz h p - i < fu → xR g (xD h) (sX I c X) (xFh h) n H → va_S (gA g) s.heap H locs → lv_has ls 4 [(0, .ref (ga g [11, c, 0])), (1, .long a), (3, .int (nI i))] → W P_ l e_ { frames := 2, cells := 0, slots := 0, locals := 33 } s m_ ([.ref (ga g [11, c, 0])] : List Value).toArray bl_ mt_ cd_ H locs 0 0 (MQ bl_ (xQc g (some (.long (sSum X (sSz h p)))) (xR g (xD h) (sX I c X) (xFh h) n)) ([.ref (ga g [11, c, 0])] : List Value).toArray s 0 0 (gA g)) (F0 m_ 4 ls []) := by
    intro fu
    induction fu with
    | zero => intro i a H locs ls hi ha hfu; exact absurd hfu (Nat.not_lt_zero _)
    | succ fu ih4 =>
      intro i a H locs ls hi ha hfu hH hS hl
      refine lv_iload_n hx hb dX0_sumOfClocks_4 rfl (lv_at hl 2 rfl) ?_
      refine lv_aload_n hx hb dX0_sumOfClocks_5 rfl (lv_at hl 0 rfl) ?_
      refine x_get (C := RX0) (T := TX0) (N := 11) (ci := 0) hx hb hts iu0 hown hK hH (id := [11, c, 0]) (by first | trivial | (simp only [xD]; omega) | (simp [xD]; done) | (simp [xD]; omega)) rfl rfl (by decide) 0 (by decide) (hts _ tw90) (fun _ h9 => h9) (sX_at _ _ _ _) (v := .ref (ga g [5, p])) (by rw [← hp]; rfl) dX0_sumOfClocks_6 ?_
      refine x_get (C := RX4) (T := TX4) (N := 4) (ci := 4) hx hb hts iu4 hown hK hH (id := [5, p]) (by first | trivial | (simp only [xD]; omega) | (simp [xD]; done) | (simp [xD]; omega)) rfl rfl (by decide) 2 (by decide) (hts _ tw74) (fun _ h9 => h9) rfl (v := .int (nI (sSz h p))) (congrArg Value.int hW.2.2.1) dX0_sumOfClocks_9 ?_
      refine lv_icmp_ge (tgt := 30) hx hb dX0_sumOfClocks_12 (by decide) (fun c_12 => ?_) (fun c_12 => ?_)
      · skip
        have c_12 := (nI_leI (a := (sSz h p)) (b := i) (by omega) (by omega)).mp c_12
        refine lv_lload_n hx hb dX0_sumOfClocks_30 rfl (lv_at hl 1 rfl) ?_
        exact x_lret hx hb hr hlocks hS dX0_sumOfClocks_31 (by rw [ha, show sSz h p = i by omega]) hH
      · skip
        have c_12 : ¬ _ := fun z_ => c_12 ((nI_leI (a := (sSz h p)) (b := i) (by omega) (by omega)).mpr z_)
        refine lv_lload_n hx hb dX0_sumOfClocks_15 rfl (lv_at hl 1 rfl) ?_
        refine lv_aload_n hx hb dX0_sumOfClocks_16 rfl (lv_at hl 0 rfl) ?_
        refine lv_iload_n hx hb dX0_sumOfClocks_17 rfl (lv_at hl 2 rfl) ?_
        refine x_V1 hx hb hml hown hE hS hl.1 cyX0_clockOf tw640 (c_X0_clockOf l g h I n c X hc i (by omega)) ⟨Nat.le_of_ble_eq_true rfl, Nat.le_of_ble_eq_true rfl⟩ ⟨Nat.le_of_ble_eq_true rfl, Nat.le_of_ble_eq_true rfl⟩ (x_recv hK hH (id := [11, c, 0]) (by first | trivial | (simp only [xD]; omega) | (simp [xD]; done) | (simp [xD]; omega)) (ci := 0) rfl (by decide) rfl) hH rfl rfl (Nat.le_of_ble_eq_true rfl) dX0_sumOfClocks_18 (fun H locs hH hS => ?_)
        refine lv_i2l hx hb dX0_sumOfClocks_21 rfl ?_
        refine lv_ladd hx hb dX0_sumOfClocks_22 ?_
        refine lv_lstore_n (lv' := [(1, .long (a + ((X 4 i)).toInt64)), (0, .ref (ga g [11, c, 0])), (3, .int (nI i))]) hx hb dX0_sumOfClocks_23 rfl hl (by decide) rfl (fun ls hl => ?_)
        refine lv_iinc (v := (nI (i + 1))) (lv' := [(3, .int (nI (i + 1))), (1, .long (a + ((X 4 i)).toInt64)), (0, .ref (ga g [11, c, 0]))]) hx hb dX0_sumOfClocks_24 hl (k := 2) rfl (by first | rfl | exact nI_1 _ | exact nI_add _ _) (by decide) rfl (fun ls hl => ?_)
        refine lv_goto (tgt := 4) hx hb dX0_sumOfClocks_27 (by decide) ?_
        exact ih4 (i + 1) ((a + ((X 4 i)).toInt64)) _ _ _ (by omega) (by rw [ha]; rfl) (by omega) hH hS (lv_sub hl [2, 1, 0] rfl)
  exact L4 _ 0 0 _ _ _ (by omega) rfl (Nat.lt_succ_self _) hH hS (lv_sub hl [2, 1, 0] rfl)

set_option maxHeartbeats 1000000 in
set_option maxRecDepth 100000 in
theorem c_X0_fewestDaysUntilLate (l : Launch) (g : xG) (h : xS) (I : xI) (n c : Nat) (X : xX) (hc : c < sNc h ∨ c = 4) (p : Nat) (hp : sPl h c = p) (hpp : p < sNp h) (hW : xWp h I p) (hch : xCh X) : xM l yX0_fewestDaysUntilLate (xws yX0_fewestDaysUntilLate cX0_fewestDaysUntilLate 4 (some FieldType.int)) 3 55 g [.ref (ga g [11, c, 0])] (xR g (xD h) (sX I c X) (xFh h) n) (some (.int (sFew (vP I p) X (sSz h p)))) (xR g (xD h) (sX I c X) (xFh h) n) 0 0 := by
  refine xM.of (by decide) (Nat.le_of_ble_eq_true rfl) ?_
  intro P_ e_ s m_ bl_ mt_ cd_ ls hx hb hr hown hlocks hml hnm hE hK hts hH hS hl
  have hl : lv_has ls 4 [(0, .ref (ga g [11, c, 0]))] := hl
  have h8 := hW.1
  refine lv_iconst (v := (-1)) hx hb dX0_fewestDaysUntilLate_0 (by decide) ?_
  refine lv_istore_n (lv' := [(1, .int (-1)), (0, .ref (ga g [11, c, 0]))]) hx hb dX0_fewestDaysUntilLate_1 rfl hl (by decide) rfl (fun ls hl => ?_)
  refine lv_iconst (v := 0) hx hb dX0_fewestDaysUntilLate_2 (by decide) ?_
  refine lv_istore_n (lv' := [(2, .int 0), (1, .int (-1)), (0, .ref (ga g [11, c, 0]))]) hx hb dX0_fewestDaysUntilLate_3 rfl hl (by decide) rfl (fun ls hl => ?_)
  have L4 : ∀ (fu : Nat) (i : Nat) (a : Int32) (H : Heap) (locs : List Loc) (ls : Array Slot), (i ≤ sSz h p) → (a = sFew (vP I p) X i) → sSz h p - i < fu → xR g (xD h) (sX I c X) (xFh h) n H → va_S (gA g) s.heap H locs → lv_has ls 4 [(0, .ref (ga g [11, c, 0])), (1, .int a), (2, .int (nI i))] → W P_ l e_ { frames := 3, cells := 0, slots := 0, locals := 55 } s m_ ([.ref (ga g [11, c, 0])] : List Value).toArray bl_ mt_ cd_ H locs 0 0 (MQ bl_ (xQc g (some (.int (sFew (vP I p) X (sSz h p)))) (xR g (xD h) (sX I c X) (xFh h) n)) ([.ref (ga g [11, c, 0])] : List Value).toArray s 0 0 (gA g)) (F0 m_ 4 ls []) := by
    intro fu
    induction fu with
    | zero => intro i a H locs ls hi ha hfu; exact absurd hfu (Nat.not_lt_zero _)
    | succ fu ih4 =>
      intro i a H locs ls hi ha hfu hH hS hl
      refine lv_iload_n hx hb dX0_fewestDaysUntilLate_4 rfl (lv_at hl 2 rfl) ?_
      refine lv_aload_n hx hb dX0_fewestDaysUntilLate_5 rfl (lv_at hl 0 rfl) ?_
      refine x_get (C := RX0) (T := TX0) (N := 11) (ci := 0) hx hb hts iu0 hown hK hH (id := [11, c, 0]) (by first | trivial | (simp only [xD]; omega) | (simp [xD]; done) | (simp [xD]; omega)) rfl rfl (by decide) 0 (by decide) (hts _ tw90) (fun _ h9 => h9) (sX_at _ _ _ _) (v := .ref (ga g [5, p])) (by rw [← hp]; rfl) dX0_fewestDaysUntilLate_6 ?_
      refine x_get (C := RX4) (T := TX4) (N := 4) (ci := 4) hx hb hts iu4 hown hK hH (id := [5, p]) (by first | trivial | (simp only [xD]; omega) | (simp [xD]; done) | (simp [xD]; omega)) rfl rfl (by decide) 2 (by decide) (hts _ tw74) (fun _ h9 => h9) rfl (v := .int (nI (sSz h p))) (congrArg Value.int hW.2.2.1) dX0_fewestDaysUntilLate_9 ?_
      refine lv_icmp_ge (tgt := 51) hx hb dX0_fewestDaysUntilLate_12 (by decide) (fun c_12 => ?_) (fun c_12 => ?_)
      · skip
        have c_12 := (nI_leI (a := (sSz h p)) (b := i) (by omega) (by omega)).mp c_12
        refine lv_iload_n hx hb dX0_fewestDaysUntilLate_51 rfl (lv_at hl 1 rfl) ?_
        exact x_iret hx hb hr hlocks hS dX0_fewestDaysUntilLate_52 (by rw [ha, show sSz h p = i by omega]) hH
      · skip
        have c_12 : ¬ _ := fun z_ => c_12 ((nI_leI (a := (sSz h p)) (b := i) (by omega) (by omega)).mpr z_)
        refine lv_aload_n hx hb dX0_fewestDaysUntilLate_15 rfl (lv_at hl 0 rfl) ?_
        refine lv_iload_n hx hb dX0_fewestDaysUntilLate_16 rfl (lv_at hl 2 rfl) ?_
        refine x_V1 hx hb hml hown hE hS hl.1 cyX0_daysUntilLate tw636 (c_X0_daysUntilLate l g h I n c X hc p hp hpp hW i (by omega)) ⟨Nat.le_of_ble_eq_true rfl, Nat.le_of_ble_eq_true rfl⟩ ⟨Nat.le_of_ble_eq_true rfl, Nat.le_of_ble_eq_true rfl⟩ (x_recv hK hH (id := [11, c, 0]) (by first | trivial | (simp only [xD]; omega) | (simp [xD]; done) | (simp [xD]; omega)) (ci := 0) rfl (by decide) rfl) hH rfl rfl (Nat.le_of_ble_eq_true rfl) dX0_fewestDaysUntilLate_17 (fun H locs hH hS => ?_)
        refine lv_istore_n (lv' := [(3, .int (sUnt (vP I p) X i)), (0, .ref (ga g [11, c, 0])), (1, .int a), (2, .int (nI i))]) hx hb dX0_fewestDaysUntilLate_20 rfl hl (by decide) rfl (fun ls hl => ?_)
        refine lv_aload_n hx hb dX0_fewestDaysUntilLate_21 rfl (lv_at hl 1 rfl) ?_
        refine lv_iload_n hx hb dX0_fewestDaysUntilLate_22 rfl (lv_at hl 3 rfl) ?_
        refine x_V1 hx hb hml hown hE hS hl.1 cyX0_isActiveTask tw527 (c_X0_isActiveTask l g h I n c X hc p hp hpp hW i (by omega) hch) ⟨Nat.le_of_ble_eq_true rfl, Nat.le_of_ble_eq_true rfl⟩ ⟨Nat.le_of_ble_eq_true rfl, Nat.le_of_ble_eq_true rfl⟩ (x_recv hK hH (id := [11, c, 0]) (by first | trivial | (simp only [xD]; omega) | (simp [xD]; done) | (simp [xD]; omega)) (ci := 0) rfl (by decide) rfl) hH rfl rfl (Nat.le_of_ble_eq_true rfl) dX0_fewestDaysUntilLate_23 (fun H locs hH hS => ?_)
        refine lv_if_eq (tgt := 45) hx hb dX0_fewestDaysUntilLate_26 (by decide) (fun c_26 => ?_) (fun c_26 => ?_)
        · skip
          refine lv_iinc (v := (nI (i + 1))) (lv' := [(2, .int (nI (i + 1))), (3, .int (sUnt (vP I p) X i)), (0, .ref (ga g [11, c, 0])), (1, .int a)]) hx hb dX0_fewestDaysUntilLate_45 hl (k := 3) rfl (by first | rfl | exact nI_1 _ | exact nI_add _ _) (by decide) rfl (fun ls hl => ?_)
          refine lv_goto (tgt := 4) hx hb dX0_fewestDaysUntilLate_48 (by decide) ?_
          exact ih4 (i + 1) a _ _ _ (by omega) (by show _ = (if _ then _ else _); rw [← ha]; rw [if_neg (fun z_ => by rw [(b01_eq0 _).mp c_26] at z_; cases z_.1)]) (by omega) hH hS (lv_sub hl [2, 3, 0] rfl)
        · skip
          refine lv_iload_n hx hb dX0_fewestDaysUntilLate_29 rfl (lv_at hl 0 rfl) ?_
          refine lv_if_le (tgt := 45) hx hb dX0_fewestDaysUntilLate_30 (by decide) (fun c_30 => ?_) (fun c_30 => ?_)
          · skip
            refine lv_iinc (v := (nI (i + 1))) (lv' := [(2, .int (nI (i + 1))), (3, .int (sUnt (vP I p) X i)), (0, .ref (ga g [11, c, 0])), (1, .int a)]) hx hb dX0_fewestDaysUntilLate_45 hl (k := 3) rfl (by first | rfl | exact nI_1 _ | exact nI_add _ _) (by decide) rfl (fun ls hl => ?_)
            refine lv_goto (tgt := 4) hx hb dX0_fewestDaysUntilLate_48 (by decide) ?_
            exact ih4 (i + 1) a _ _ _ (by omega) (by show _ = (if _ then _ else _); rw [← ha]; rw [if_neg (fun z_ => i_lt_nle z_.2.1 c_30)]) (by omega) hH hS (lv_sub hl [2, 3, 0] rfl)
          · skip
            refine lv_iload_n hx hb dX0_fewestDaysUntilLate_33 rfl (lv_at hl 2 rfl) ?_
            refine lv_iconst (v := (-1)) hx hb dX0_fewestDaysUntilLate_34 (by decide) ?_
            refine lv_icmp_eq (tgt := 43) hx hb dX0_fewestDaysUntilLate_35 (by decide) (fun c_35 => ?_) (fun c_35 => ?_)
            · skip
              refine lv_iload_n hx hb dX0_fewestDaysUntilLate_43 rfl (lv_at hl 0 rfl) ?_
              refine lv_istore_n (lv' := [(1, .int (sUnt (vP I p) X i)), (3, .int (sUnt (vP I p) X i)), (0, .ref (ga g [11, c, 0])), (2, .int (nI i))]) hx hb dX0_fewestDaysUntilLate_44 rfl hl (by decide) rfl (fun ls hl => ?_)
              refine lv_iinc (v := (nI (i + 1))) (lv' := [(2, .int (nI (i + 1))), (1, .int (sUnt (vP I p) X i)), (3, .int (sUnt (vP I p) X i)), (0, .ref (ga g [11, c, 0]))]) hx hb dX0_fewestDaysUntilLate_45 hl (k := 3) rfl (by first | rfl | exact nI_1 _ | exact nI_add _ _) (by decide) rfl (fun ls hl => ?_)
              refine lv_goto (tgt := 4) hx hb dX0_fewestDaysUntilLate_48 (by decide) ?_
              exact ih4 (i + 1) ((sUnt (vP I p) X i)) _ _ _ (by omega) (by show _ = (if _ then _ else _); rw [← ha]; rw [if_pos ⟨b01_ne0 c_26, Int32.not_le.mp c_30, Or.inl c_35⟩]) (by omega) hH hS (lv_sub hl [3, 1, 0] rfl)
            · skip
              refine lv_iload_n hx hb dX0_fewestDaysUntilLate_38 rfl (lv_at hl 0 rfl) ?_
              refine lv_iload_n hx hb dX0_fewestDaysUntilLate_39 rfl (lv_at hl 2 rfl) ?_
              refine lv_icmp_ge (tgt := 45) hx hb dX0_fewestDaysUntilLate_40 (by decide) (fun c_40 => ?_) (fun c_40 => ?_)
              · skip
                refine lv_iinc (v := (nI (i + 1))) (lv' := [(2, .int (nI (i + 1))), (3, .int (sUnt (vP I p) X i)), (0, .ref (ga g [11, c, 0])), (1, .int a)]) hx hb dX0_fewestDaysUntilLate_45 hl (k := 3) rfl (by first | rfl | exact nI_1 _ | exact nI_add _ _) (by decide) rfl (fun ls hl => ?_)
                refine lv_goto (tgt := 4) hx hb dX0_fewestDaysUntilLate_48 (by decide) ?_
                exact ih4 (i + 1) a _ _ _ (by omega) (by show _ = (if _ then _ else _); rw [← ha]; rw [if_neg (fun z_ => z_.2.2.elim c_35 (fun z2 => i_lt_nle z2 c_40))]) (by omega) hH hS (lv_sub hl [2, 3, 0] rfl)
              · skip
                refine lv_iload_n hx hb dX0_fewestDaysUntilLate_43 rfl (lv_at hl 0 rfl) ?_
                refine lv_istore_n (lv' := [(1, .int (sUnt (vP I p) X i)), (3, .int (sUnt (vP I p) X i)), (0, .ref (ga g [11, c, 0])), (2, .int (nI i))]) hx hb dX0_fewestDaysUntilLate_44 rfl hl (by decide) rfl (fun ls hl => ?_)
                refine lv_iinc (v := (nI (i + 1))) (lv' := [(2, .int (nI (i + 1))), (1, .int (sUnt (vP I p) X i)), (3, .int (sUnt (vP I p) X i)), (0, .ref (ga g [11, c, 0]))]) hx hb dX0_fewestDaysUntilLate_45 hl (k := 3) rfl (by first | rfl | exact nI_1 _ | exact nI_add _ _) (by decide) rfl (fun ls hl => ?_)
                refine lv_goto (tgt := 4) hx hb dX0_fewestDaysUntilLate_48 (by decide) ?_
                exact ih4 (i + 1) ((sUnt (vP I p) X i)) _ _ _ (by omega) (by show _ = (if _ then _ else _); rw [← ha]; rw [if_pos ⟨b01_ne0 c_26, Int32.not_le.mp c_30, Or.inr (Int32.not_le.mp c_40)⟩]) (by omega) hH hS (lv_sub hl [3, 1, 0] rfl)
  exact L4 _ 0 ((-1)) _ _ _ (by omega) rfl (Nat.lt_succ_self _) hH hS (lv_sub hl [2, 1, 0] rfl)
