/-! CONTRACTS: the model, what happens to a case, more -/
set_option maxHeartbeats 1000000 in
set_option maxRecDepth 100000 in
theorem c_X7_keeps (l : Launch) (g : xG) (h : xS) (I : xI) (n : Nat) (c : Nat) (X : xX) (hc4 : c < 4) (hch : xCh X)  : xM l yX7_keeps (xws yX7_keeps cX7_keeps 3 none) 1 12 g [.ref (ga g [20]), .int (nI c)] (xR g (xD h) (mW I c X) (xFh h) n) none (xR g (xD h) (mW (mKp I X 8) c X) (xFh h) n) 0 0 := by
  refine xM.of (by decide) (Nat.le_of_ble_eq_true rfl) ?_
  intro P_ e_ s m_ bl_ mt_ cd_ ls hx hb hr hown hlocks hml hnm hE hK hts hH hS hl
  have hl : lv_has ls 3 [(0, .ref (ga g [20])), (1, .int (nI c))] := hl
  refine lv_iconst (v := 0) hx hb dX7_keeps_0 (by decide) ?_
  refine lv_istore_n (lv' := [(2, .int 0), (0, .ref (ga g [20])), (1, .int (nI c))]) hx hb dX7_keeps_1 rfl hl (by decide) rfl (fun ls hl => ?_)
  have hH : xR g (xD h) (mW (mKp I X 0) c X) (xFh h) n s.heap := by rw [mKp_0]; exact hH
  have L2 : ∀ (fu : Nat) (i : Nat) (H : Heap) (locs : List Loc) (ls : Array Slot), (i ≤ 8) → 8 - i < fu → xR g (xD h) (mW (mKp I X i) c X) (xFh h) n H → va_S (gA g) s.heap H locs → lv_has ls 3 [(0, .ref (ga g [20])), (1, .int (nI c)), (2, .int (nI i))] → W P_ l e_ { frames := 1, cells := 0, slots := 0, locals := 12 } s m_ ([.ref (ga g [20]), .int (nI c)] : List Value).toArray bl_ mt_ cd_ H locs 0 0 (MQ bl_ (xQc g none (xR g (xD h) (mW (mKp I X 8) c X) (xFh h) n)) ([.ref (ga g [20]), .int (nI c)] : List Value).toArray s 0 0 (gA g)) (F0 m_ 2 ls []) := by
    intro fu
    induction fu with
    | zero => intro i H locs ls hi hfu; exact absurd hfu (Nat.not_lt_zero _)
    | succ fu ih2 =>
      intro i H locs ls hi hfu hH hS hl
      refine lv_iload_n hx hb dX7_keeps_2 rfl (lv_at hl 2 rfl) ?_
      refine lv_bipush (v := 8) hx hb dX7_keeps_3 (by decide) ?_
      refine lv_icmp_ge (tgt := 28) hx hb dX7_keeps_5 (by decide) (fun c_5 => ?_) (fun c_5 => ?_)
      · skip
        have c_5 := (nI_leI (a := 8) (b := i) (by omega) (by omega)).mp c_5
        exact x_vret hx hb hr hlocks hS dX7_keeps_28 ((show i = 8 by omega) ▸ hH)
      · skip
        have c_5 : ¬ _ := fun z_ => c_5 ((nI_leI (a := 8) (b := i) (by omega) (by omega)).mpr z_)
        refine lv_aload_n hx hb dX7_keeps_8 rfl (lv_at hl 0 rfl) ?_
        refine x_get (C := RX7) (T := TX7) (N := 24) (ci := 7) hx hb hts iu7 hown hK hH (id := [20]) (by first | trivial | (simp only [xD]; omega) | (simp [xD]; done) | (simp [xD]; omega)) rfl rfl (by decide) 22 (by decide) (hts _ tw861) (fun _ h9 => h9) rfl (v := .ref (ga g [24, 22])) rfl dX7_keeps_9 ?_
        refine lv_iload_n hx hb dX7_keeps_12 rfl (lv_at hl 2 rfl) ?_
        refine lv_aload_n hx hb dX7_keeps_13 rfl (lv_at hl 0 rfl) ?_
        refine x_get (C := RX7) (T := TX7) (N := 24) (ci := 7) hx hb hts iu7 hown hK hH (id := [20]) (by first | trivial | (simp only [xD]; omega) | (simp [xD]; done) | (simp [xD]; omega)) rfl rfl (by decide) 14 (by decide) (hts _ tw853) (fun _ h9 => h9) rfl (v := .ref (ga g [21, 14])) rfl dX7_keeps_14 ?_
        refine lv_iload_n hx hb dX7_keeps_17 rfl (lv_at hl 1 rfl) ?_
        refine x_aald hx hb hK hH (id := [21, 14]) (by first | trivial | (simp only [xD]; omega) | (simp [xD]; done) | (simp [xD]; omega)) 8 (L := 4) rfl (by decide) c rfl (by omega) (by decide) (v := .ref (ga g [22, 14, c])) (by show rq _ (if _ then _ else _) = _; rw [if_pos (show c < xLn 14 by show _ < 4; omega)]; rfl) dX7_keeps_18 ?_
        refine lv_iload_n hx hb dX7_keeps_19 rfl (lv_at hl 2 rfl) ?_
        refine x_cald hx hb hK hH (id := [22, 14, c]) (by first | trivial | (simp only [xD]; omega) | (simp [xD]; done) | (simp [xD]; omega)) (L := 8) rfl (r := (X 2)) (mW_r2 _ _ _) i rfl (by omega) (by decide) dX7_keeps_20 ?_
        obtain ⟨I1_, hI1_⟩ : ∃ z, z = up (mKp I X i) [24, 22] i (X 2 i) := ⟨_, rfl⟩
        refine x_cast hx hb hK hH hS (id := [24, 22]) (by first | trivial | (simp only [xD]; omega) | (simp [xD]; done) | (simp [xD]; omega)) (L := 8) rfl i rfl (by omega) (by decide) (hch i) ((mW_uJ (mKp I X i) c X [24, 22] i (X 2 i) rfl).trans (congrArg (fun z => mW z c X) hI1_.symm)) dX7_keeps_21 (fun H locs hH hS => ?_)
        rw [hI1_, mKp_s] at hH
        refine lv_iinc (v := (nI (i + 1))) (lv' := [(2, .int (nI (i + 1))), (0, .ref (ga g [20])), (1, .int (nI c))]) hx hb dX7_keeps_22 hl (k := 2) rfl (by first | rfl | exact nI_1 _ | exact nI_add _ _) (by decide) rfl (fun ls hl => ?_)
        refine lv_goto (tgt := 2) hx hb dX7_keeps_25 (by decide) ?_
        exact ih2 (i + 1) _ _ _ (by omega) (by omega) hH hS (lv_sub hl [1, 2, 0] rfl)
  exact L2 _ 0 _ _ _ (by omega) (Nat.lt_succ_self _) hH hS (lv_sub hl [1, 2, 0] rfl)

theorem mKp_at (I : xI) (X : xX) {k : Nat} (h : k < 8) : mKp I X 8 [24, 22] k = X 2 k := if_pos ⟨rfl, h⟩
theorem mKp_pK (I : xI) (X : xX) : ∀ id, pK id = true → mKp I X 8 id = I id := fun id h => mKp_ne I X 8 (fun e => by subst e; cases h)
theorem sRul_r3 (P : Nat → Nat → Int32) (C : Nat → Nat → Nat → Nat → Int32) (cn : Nat → Nat → Nat) (n : Nat) (X : xX) (j : Nat) : (sRul P C cn n X j).2 3 = X 3 := by
  unfold sRul
  split
  · rfl
  · split
    · funext q; simp [up2]
    · split
      · rfl
      · split
        · funext q; simp [up2]
        · rfl
theorem sSwp_r3 (P : Nat → Nat → Int32) (C : Nat → Nat → Nat → Nat → Int32) (cn : Nat → Nat → Nat) (n : Nat) (X : xX) : ∀ i, (sSwp P C cn n i X).2 3 = X 3
  | 0 => rfl
  | i + 1 => (sRul_r3 P C cn n _ i).trans (sSwp_r3 P C cn n X i)
theorem sRnd_3 (P : Nat → Nat → Int32) (C : Nat → Nat → Nat → Nat → Int32) (cn : Nat → Nat → Nat) (n : Nat) : ∀ (t r : Nat) (X : xX), sRnd P C cn n t r X 3 = X 3
  | 0, _, _ => rfl
  | t + 1, r, X => by
    show (if (sSwp P C cn n n X).1 = true then sRnd P C cn n t (r + 1) (up2 (sSwp P C cn n n X).2 0 9 (nI (r + 1))) else (sSwp P C cn n n X).2) 3 = X 3
    split
    · rw [sRnd_3, up2_f _ _ _ (by decide)]; exact sSwp_r3 P C cn n X n
    · exact sSwp_r3 P C cn n X n
theorem sTail_3 (P : Nat → Nat → Int32) (C : Nat → Nat → Nat → Nat → Int32) (cn : Nat → Nat → Nat) (n : Nat) (X : xX) : sTail P C cn n X 3 = X 3 := by
  unfold sTail sRun
  rw [up2_f _ _ _ (by decide), sRnd_3, up2_f _ _ _ (by decide), up2_f _ _ _ (by decide)]
theorem sFins_hi (P : Nat → Nat → Int32) (i0 : Nat) : ∀ (d : Nat) (s : (Nat → Int32) × (Nat → Bool)) (i : Nat), i0 + d ≤ i → (sFins P i0 d s).1 i = s.1 i
  | 0, _, _, _ => rfl
  | d + 1, s, i, hi => by
    show (sFin P (i0 + d) (sFins P i0 d s)).1 i = s.1 i
    unfold sFin
    split
    · exact (if_neg (by omega)).trans (sFins_hi P i0 d s i (by omega))
    · exact sFins_hi P i0 d s i (by omega)
theorem sEnd_hi (P : Nat → Nat → Int32) (n : Nat) (X : xX) {j : Nat} (hj : j < n) (v : Int32) {i : Nat} (hi : n ≤ i) : sEnd P n X j v 2 i = X 2 i := (sFins_hi P (j + 1) (n - (j + 1)) _ i (by omega)).trans (if_neg (by omega))
theorem sRul_hi (P : Nat → Nat → Int32) (C : Nat → Nat → Nat → Nat → Int32) (cn : Nat → Nat → Nat) (n : Nat) (X : xX) {j : Nat} (hj : j < n) {i : Nat} (hi : n ≤ i) : (sRul P C cn n X j).2 2 i = X 2 i := by
  unfold sRul
  split
  · exact sEnd_hi P n X hj _ hi
  · split
    · show up2 (up2 X 2 j (if P j 0 = 109 then 99 else 97)) 5 j (X 5 j + 1) 2 i = X 2 i
      rw [up2_f _ _ _ (by decide), up2_k _ _ _ (by omega)]
    · split
      · exact sEnd_hi P n X hj _ hi
      · split
        · exact up2_k _ _ _ (by omega)
        · rfl
theorem sSwp_hi (P : Nat → Nat → Int32) (C : Nat → Nat → Nat → Nat → Int32) (cn : Nat → Nat → Nat) (n : Nat) (X : xX) {k : Nat} (hk : n ≤ k) : ∀ i, i ≤ n → (sSwp P C cn n i X).2 2 k = X 2 k
  | 0, _ => rfl
  | i + 1, hi => (sRul_hi P C cn n _ (by omega) hk).trans (sSwp_hi P C cn n X hk i (by omega))
theorem sRnd_hi (P : Nat → Nat → Int32) (C : Nat → Nat → Nat → Nat → Int32) (cn : Nat → Nat → Nat) (n : Nat) {k : Nat} (hk : n ≤ k) : ∀ (t r : Nat) (X : xX), sRnd P C cn n t r X 2 k = X 2 k
  | 0, _, _ => rfl
  | t + 1, r, X => by
    show (if (sSwp P C cn n n X).1 = true then sRnd P C cn n t (r + 1) (up2 (sSwp P C cn n n X).2 0 9 (nI (r + 1))) else (sSwp P C cn n n X).2) 2 k = X 2 k
    split
    · rw [sRnd_hi P C cn n hk, up2_f _ _ _ (by decide)]; exact sSwp_hi P C cn n X hk n (Nat.le_refl _)
    · exact sSwp_hi P C cn n X hk n (Nat.le_refl _)
theorem sTail_hi (P : Nat → Nat → Int32) (C : Nat → Nat → Nat → Nat → Int32) (cn : Nat → Nat → Nat) (n : Nat) (X : xX) {k : Nat} (hk : n ≤ k) : sTail P C cn n X 2 k = X 2 k := by
  unfold sTail sRun
  rw [up2_f _ _ _ (by decide), sRnd_hi P C cn n hk, up2_f _ _ _ (by decide), up2_f _ _ _ (by decide)]
theorem sChg_hi {X : xX} {y : Int32} {n : Nat} (h : ∀ k, n ≤ k → k < 8 → X 2 k = X 3 k) : ∀ d, n + d ≤ 8 → sChg X y (n + d) = sChg X y n
  | 0, _ => rfl
  | d + 1, hd => by
    show sChg X y (n + d) + (if nI (n + d) ≠ y ∧ X 2 (n + d) ≠ X 3 (n + d) then 1 else 0) = _
    rw [if_neg (fun z => z.2 (h (n + d) (by omega) (by omega)))]
    exact sChg_hi h d (by omega)
theorem sChg_8 {X : xX} {y : Int32} {n : Nat} (h8 : n ≤ 8) (h : ∀ k, n ≤ k → k < 8 → X 2 k = X 3 k) : sChg X y 8 = sChg X y n := by
  have := sChg_hi (y := y) h (8 - n) (by omega)
  rwa [show n + (8 - n) = 8 by omega] at this
theorem sEnd_leaf {h : xS} {I : xI} {p k : Nat} (hW : xWp h I p) (hk : k < sSz h p) (h9 : ¬ I [7, p, k] 0 = 115) (X : xX) (v : Int32) : sEnd (vP I p) (sSz h p) X k v = up2 X 2 k v := by
  rw [sEnd_cl, ← clE_eq hW.pW hW.1 hk (LI_self (hW.leaf h9)), ← up2_rw2]
set_option maxHeartbeats 1000000 in
set_option maxRecDepth 100000 in
theorem c_X7_changed (l : Launch) (g : xG) (h : xS) (I : xI) (n c : Nat) (X : xX) (hc : c < 4) (p : Nat) (hpp : p < 3) (hpo : I [24, 11] c = nI p) (hA : mA h I p) (hW : xWp h I p) (y : Int32) (hB : ∀ k, k < 8 → I [24, 22] k = X 3 k)  : xM l yX7_changed (xws yX7_changed cX7_changed 5 (some FieldType.int)) 1 12 g [.ref (ga g [20]), .int (nI c), .int y] (xR g (xD h) (mW I c X) (xFh h) n) (some (.int (nI (sChg X y (sSz h p))))) (xR g (xD h) (mW I c X) (xFh h) n) 0 0 := by
  refine xM.of (by decide) (Nat.le_of_ble_eq_true rfl) ?_
  intro P_ e_ s m_ bl_ mt_ cd_ ls hx hb hr hown hlocks hml hnm hE hK hts hH hS hl
  have hl : lv_has ls 5 [(0, .ref (ga g [20])), (1, .int (nI c)), (2, .int y)] := hl
  have h8 := hW.1
  refine lv_iconst (v := 0) hx hb dX7_changed_0 (by decide) ?_
  refine lv_istore_n (lv' := [(3, .int 0), (0, .ref (ga g [20])), (1, .int (nI c)), (2, .int y)]) hx hb dX7_changed_1 rfl hl (by decide) rfl (fun ls hl => ?_)
  refine lv_iconst (v := 0) hx hb dX7_changed_2 (by decide) ?_
  refine lv_istore (lv' := [(4, .int 0), (3, .int 0), (0, .ref (ga g [20])), (1, .int (nI c)), (2, .int y)]) hx hb dX7_changed_3 hl (by decide) rfl (fun ls hl => ?_)
  have L5 : ∀ (fu : Nat) (i : Nat) (H : Heap) (locs : List Loc) (ls : Array Slot), (i ≤ sSz h p) → sSz h p - i < fu → xR g (xD h) (mW I c X) (xFh h) n H → va_S (gA g) s.heap H locs → lv_has ls 5 [(0, .ref (ga g [20])), (1, .int (nI c)), (2, .int y), (3, .int (nI (sChg X y i))), (4, .int (nI i))] → W P_ l e_ { frames := 1, cells := 0, slots := 0, locals := 12 } s m_ ([.ref (ga g [20]), .int (nI c), .int y] : List Value).toArray bl_ mt_ cd_ H locs 0 0 (MQ bl_ (xQc g (some (.int (nI (sChg X y (sSz h p))))) (xR g (xD h) (mW I c X) (xFh h) n)) ([.ref (ga g [20]), .int (nI c), .int y] : List Value).toArray s 0 0 (gA g)) (F0 m_ 5 ls []) := by
    intro fu
    induction fu with
    | zero => intro i H locs ls hi hfu; exact absurd hfu (Nat.not_lt_zero _)
    | succ fu ih5 =>
      intro i H locs ls hi hfu hH hS hl
      refine lv_iload hx hb dX7_changed_5 (lv_at hl 4 rfl) ?_
      refine lv_aload_n hx hb dX7_changed_7 rfl (lv_at hl 0 rfl) ?_
      refine x_get (C := RX7) (T := TX7) (N := 24) (ci := 7) hx hb hts iu7 hown hK hH (id := [20]) (by first | trivial | (simp only [xD]; omega) | (simp [xD]; done) | (simp [xD]; omega)) rfl rfl (by decide) 8 (by decide) (hts _ tw847) (fun _ h9 => h9) rfl (v := .ref (ga g [24, 8])) rfl dX7_changed_8 ?_
      refine lv_aload_n hx hb dX7_changed_11 rfl (lv_at hl 0 rfl) ?_
      refine x_get (C := RX7) (T := TX7) (N := 24) (ci := 7) hx hb hts iu7 hown hK hH (id := [20]) (by first | trivial | (simp only [xD]; omega) | (simp [xD]; done) | (simp [xD]; omega)) rfl rfl (by decide) 11 (by decide) (hts _ tw850) (fun _ h9 => h9) rfl (v := .ref (ga g [24, 11])) rfl dX7_changed_12 ?_
      refine lv_iload_n hx hb dX7_changed_15 rfl (lv_at hl 1 rfl) ?_
      refine x_iald hx hb hK hH (id := [24, 11]) (by first | trivial | (simp only [xD]; omega) | (simp [xD]; done) | (simp [xD]; omega)) (L := 4) rfl (r := (I [24, 11])) rfl c rfl (by omega) (by decide) dX7_changed_16 ?_
      rw [show (I [24, 11] c) = (nI p) from hpo]
      refine x_iald hx hb hK hH (id := [24, 8]) (by first | trivial | (simp only [xD]; omega) | (simp [xD]; done) | (simp [xD]; omega)) (L := 3) rfl (r := (I [24, 8])) rfl p rfl (by omega) (by decide) dX7_changed_17 ?_
      rw [show (I [24, 8] p) = (nI (sSz h p)) from hA.1]
      refine lv_icmp_ge (tgt := 60) hx hb dX7_changed_18 (by decide) (fun c_18 => ?_) (fun c_18 => ?_)
      · skip
        have c_18 := (nI_leI (a := (sSz h p)) (b := i) (by omega) (by omega)).mp c_18
        refine lv_iload_n hx hb dX7_changed_60 rfl (lv_at hl 3 rfl) ?_
        exact x_iret hx hb hr hlocks hS dX7_changed_61 (by rw [show i = sSz h p by omega]) hH
      · skip
        have c_18 : ¬ _ := fun z_ => c_18 ((nI_leI (a := (sSz h p)) (b := i) (by omega) (by omega)).mpr z_)
        refine lv_iload_n hx hb dX7_changed_21 rfl (lv_at hl 3 rfl) ?_
        refine lv_iload hx hb dX7_changed_22 (lv_at hl 4 rfl) ?_
        refine lv_iload_n hx hb dX7_changed_24 rfl (lv_at hl 2 rfl) ?_
        refine lv_icmp_eq (tgt := 51) hx hb dX7_changed_25 (by decide) (fun c_25 => ?_) (fun c_25 => ?_)
        · skip
          refine lv_iconst (v := 0) hx hb dX7_changed_51 (by decide) ?_
          refine lv_iadd hx hb dX7_changed_52 ?_
          rw [show ((nI (sChg X y i)) + 0) = (nI (sChg X y (i + 1))) from (by show _ = nI (sChg X y i + (if nI i ≠ y ∧ X 2 i ≠ X 3 i then 1 else 0)); rw [if_neg (fun z => z.1 c_25)]; exact Int32.add_zero _)]
          refine lv_istore_n (lv' := [(3, .int (nI (sChg X y (i + 1)))), (0, .ref (ga g [20])), (1, .int (nI c)), (2, .int y), (4, .int (nI i))]) hx hb dX7_changed_53 rfl hl (by decide) rfl (fun ls hl => ?_)
          refine lv_iinc (v := (nI (i + 1))) (lv' := [(4, .int (nI (i + 1))), (3, .int (nI (sChg X y (i + 1)))), (0, .ref (ga g [20])), (1, .int (nI c)), (2, .int y)]) hx hb dX7_changed_54 hl (k := 4) rfl (by first | rfl | exact nI_1 _ | exact nI_add _ _) (by decide) rfl (fun ls hl => ?_)
          refine lv_goto (tgt := 5) hx hb dX7_changed_57 (by decide) ?_
          exact ih5 (i + 1) _ _ _ (by omega) (by omega) hH hS (lv_sub hl [2, 3, 4, 1, 0] rfl)
        · skip
          refine lv_aload_n hx hb dX7_changed_28 rfl (lv_at hl 0 rfl) ?_
          refine x_get (C := RX7) (T := TX7) (N := 24) (ci := 7) hx hb hts iu7 hown hK hH (id := [20]) (by first | trivial | (simp only [xD]; omega) | (simp [xD]; done) | (simp [xD]; omega)) rfl rfl (by decide) 14 (by decide) (hts _ tw853) (fun _ h9 => h9) rfl (v := .ref (ga g [21, 14])) rfl dX7_changed_29 ?_
          refine lv_iload_n hx hb dX7_changed_32 rfl (lv_at hl 1 rfl) ?_
          refine x_aald hx hb hK hH (id := [21, 14]) (by first | trivial | (simp only [xD]; omega) | (simp [xD]; done) | (simp [xD]; omega)) 8 (L := 4) rfl (by decide) c rfl (by omega) (by decide) (v := .ref (ga g [22, 14, c])) (by show rq _ (if _ then _ else _) = _; rw [if_pos (show c < xLn 14 by show _ < 4; omega)]; rfl) dX7_changed_33 ?_
          refine lv_iload hx hb dX7_changed_34 (lv_at hl 4 rfl) ?_
          refine x_cald hx hb hK hH (id := [22, 14, c]) (by first | trivial | (simp only [xD]; omega) | (simp [xD]; done) | (simp [xD]; omega)) (L := 8) rfl (r := (X 2)) (mW_r2 _ _ _) i rfl (by omega) (by decide) dX7_changed_36 ?_
          refine lv_aload_n hx hb dX7_changed_37 rfl (lv_at hl 0 rfl) ?_
          refine x_get (C := RX7) (T := TX7) (N := 24) (ci := 7) hx hb hts iu7 hown hK hH (id := [20]) (by first | trivial | (simp only [xD]; omega) | (simp [xD]; done) | (simp [xD]; omega)) rfl rfl (by decide) 22 (by decide) (hts _ tw861) (fun _ h9 => h9) rfl (v := .ref (ga g [24, 22])) rfl dX7_changed_38 ?_
          refine lv_iload hx hb dX7_changed_41 (lv_at hl 4 rfl) ?_
          refine x_cald hx hb hK hH (id := [24, 22]) (by first | trivial | (simp only [xD]; omega) | (simp [xD]; done) | (simp [xD]; omega)) (L := 8) rfl (r := (I [24, 22])) rfl i rfl (by omega) (by decide) dX7_changed_43 ?_
          rw [show (I [24, 22] i) = (X 3 i) from (hB i (by omega))]
          refine lv_icmp_eq (tgt := 51) hx hb dX7_changed_44 (by decide) (fun c_44 => ?_) (fun c_44 => ?_)
          · skip
            refine lv_iconst (v := 0) hx hb dX7_changed_51 (by decide) ?_
            refine lv_iadd hx hb dX7_changed_52 ?_
            rw [show ((nI (sChg X y i)) + 0) = (nI (sChg X y (i + 1))) from (by show _ = nI (sChg X y i + (if nI i ≠ y ∧ X 2 i ≠ X 3 i then 1 else 0)); rw [if_neg (fun z => z.2 c_44)]; exact Int32.add_zero _)]
            refine lv_istore_n (lv' := [(3, .int (nI (sChg X y (i + 1)))), (0, .ref (ga g [20])), (1, .int (nI c)), (2, .int y), (4, .int (nI i))]) hx hb dX7_changed_53 rfl hl (by decide) rfl (fun ls hl => ?_)
            refine lv_iinc (v := (nI (i + 1))) (lv' := [(4, .int (nI (i + 1))), (3, .int (nI (sChg X y (i + 1)))), (0, .ref (ga g [20])), (1, .int (nI c)), (2, .int y)]) hx hb dX7_changed_54 hl (k := 4) rfl (by first | rfl | exact nI_1 _ | exact nI_add _ _) (by decide) rfl (fun ls hl => ?_)
            refine lv_goto (tgt := 5) hx hb dX7_changed_57 (by decide) ?_
            exact ih5 (i + 1) _ _ _ (by omega) (by omega) hH hS (lv_sub hl [2, 3, 4, 1, 0] rfl)
          · skip
            refine lv_iconst (v := 1) hx hb dX7_changed_47 (by decide) ?_
            refine lv_goto (tgt := 52) hx hb dX7_changed_48 (by decide) ?_
            refine lv_iadd hx hb dX7_changed_52 ?_
            rw [show ((nI (sChg X y i)) + 1) = (nI (sChg X y (i + 1))) from (by show _ = nI (sChg X y i + (if nI i ≠ y ∧ X 2 i ≠ X 3 i then 1 else 0)); rw [if_pos ⟨c_25, c_44⟩]; exact nI_1 _)]
            refine lv_istore_n (lv' := [(3, .int (nI (sChg X y (i + 1)))), (0, .ref (ga g [20])), (1, .int (nI c)), (2, .int y), (4, .int (nI i))]) hx hb dX7_changed_53 rfl hl (by decide) rfl (fun ls hl => ?_)
            refine lv_iinc (v := (nI (i + 1))) (lv' := [(4, .int (nI (i + 1))), (3, .int (nI (sChg X y (i + 1)))), (0, .ref (ga g [20])), (1, .int (nI c)), (2, .int y)]) hx hb dX7_changed_54 hl (k := 4) rfl (by first | rfl | exact nI_1 _ | exact nI_add _ _) (by decide) rfl (fun ls hl => ?_)
            refine lv_goto (tgt := 5) hx hb dX7_changed_57 (by decide) ?_
            exact ih5 (i + 1) _ _ _ (by omega) (by omega) hH hS (lv_sub hl [2, 3, 4, 1, 0] rfl)
  exact L5 _ 0 _ _ _ (Nat.zero_le _) (Nat.lt_succ_self _) hH hS (lv_sub hl [2, 3, 4, 1, 0] rfl)

set_option maxHeartbeats 1000000 in
set_option maxRecDepth 100000 in
theorem c_X7_event_c (l : Launch) (g : xG) (h : xS) (I : xI) (n : Nat) (m : Nat) (hm4 : m ≤ 4) (hm : I [20] 20 = nI m) (x y : Int32) (hxb : sIn x 0 (nI m) = false)  : xM l yX7_event (xws yX7_event cX7_event 3 (some FieldType.int)) 3 55 g [.ref (ga g [20]), .int x, .int y] (xR g (xD h) I (xFh h) n) (some (.int 0)) (xR g (xD h) (up I [20] 23 1) (xFh h) n) 0 0 := by
  refine xM.of (by decide) (Nat.le_of_ble_eq_true rfl) ?_
  intro P_ e_ s m_ bl_ mt_ cd_ ls hx hb hr hown hlocks hml hnm hE hK hts hH hS hl
  have hl : lv_has ls 3 [(0, .ref (ga g [20])), (1, .int x), (2, .int y)] := hl
  refine lv_aload_n hx hb dX7_event_0 rfl (lv_at hl 0 rfl) ?_
  refine lv_aload_n hx hb dX7_event_1 rfl (lv_at hl 0 rfl) ?_
  refine lv_iload_n hx hb dX7_event_2 rfl (lv_at hl 1 rfl) ?_
  refine x_V1 hx hb hml hown hE hS hl.1 cyX7_isCase tw1016 (c_X7_isCase l g h I n x m (by omega) hm) ⟨Nat.le_of_ble_eq_true rfl, Nat.le_of_ble_eq_true rfl⟩ ⟨Nat.le_of_ble_eq_true rfl, Nat.le_of_ble_eq_true rfl⟩ (x_recv hK hH (id := [20]) (by first | trivial | (simp only [xD]; omega) | (simp [xD]; done) | (simp [xD]; omega)) (ci := 7) rfl (by decide) rfl) hH rfl rfl (Nat.le_of_ble_eq_true rfl) dX7_event_3 (fun H locs hH hS => ?_)
  refine lv_if_ne (tgt := 13) hx hb dX7_event_6 (by decide) (fun q_ => absurd q_ (fun z_ => z_ ((b01_eq0 _).mpr hxb))) (fun _ => ?_)
  refine lv_iconst (v := 1) hx hb dX7_event_9 (by decide) ?_
  refine lv_goto (tgt := 28) hx hb dX7_event_10 (by decide) ?_
  obtain ⟨I1_, hI1_⟩ : ∃ z, z = up I [20] 23 1 := ⟨_, rfl⟩
  refine x_put (C := RX7) (T := TX7) (N := 24) (ci := 7) hx hb hts iu7 tyX7 tyX7_ok nmX7 hown hK hH hS (id := [20]) (by first | trivial | (simp only [xD]; omega) | (simp [xD]; done) | (simp [xD]; omega)) rfl rfl (by decide) 23 (by decide) (hts _ tw862) (fun _ h9 => h9) (Or.inl rfl) (ty := .int) (v := .int 1) (by decide +kernel) rfl rfl (I' := I1_) (F' := (xFh h)) (fun i hi => by rw [hI1_]; exact up_id hi) (fun _ _ => rfl) (fun j9 => by rw [hI1_, up_row]; exact xv_upd (ci := 7) (k := 23) rfl j9) dX7_event_28 (fun H locs hH hS => ?_)
  refine lv_aload_n hx hb dX7_event_31 rfl (lv_at hl 0 rfl) ?_
  refine x_get (C := RX7) (T := TX7) (N := 24) (ci := 7) hx hb hts iu7 hown hK hH (id := [20]) (by first | trivial | (simp only [xD]; omega) | (simp [xD]; done) | (simp [xD]; omega)) rfl rfl (by decide) 23 (by decide) (hts _ tw862) (fun _ h9 => h9) rfl (v := .int 1) (congrArg Value.int (by rw [hI1_]; exact up_at)) dX7_event_32 ?_
  refine lv_if_le (tgt := 40) hx hb dX7_event_35 (by decide) (fun q_ => absurd q_ (by decide)) (fun _ => ?_)
  refine lv_iconst (v := 0) hx hb dX7_event_38 (by decide) ?_
  exact x_iret hx hb hr hlocks hS dX7_event_39 rfl (by rw [hI1_] at hH; exact hH)

set_option maxHeartbeats 1000000 in
set_option maxRecDepth 100000 in
theorem c_X7_event_e (l : Launch) (g : xG) (h : xS) (I : xI) (n : Nat) (m : Nat) (hm4 : m ≤ 4) (hm : I [20] 20 = nI m) (c : Nat) (hc : c < m) (y : Int32) (hy : sIn y 0 10 = false)  : xM l yX7_event (xws yX7_event cX7_event 3 (some FieldType.int)) 3 55 g [.ref (ga g [20]), .int (nI c), .int y] (xR g (xD h) I (xFh h) n) (some (.int 0)) (xR g (xD h) (up I [20] 23 2) (xFh h) n) 0 0 := by
  refine xM.of (by decide) (Nat.le_of_ble_eq_true rfl) ?_
  intro P_ e_ s m_ bl_ mt_ cd_ ls hx hb hr hown hlocks hml hnm hE hK hts hH hS hl
  have hl : lv_has ls 3 [(0, .ref (ga g [20])), (1, .int (nI c)), (2, .int y)] := hl
  refine lv_aload_n hx hb dX7_event_0 rfl (lv_at hl 0 rfl) ?_
  refine lv_aload_n hx hb dX7_event_1 rfl (lv_at hl 0 rfl) ?_
  refine lv_iload_n hx hb dX7_event_2 rfl (lv_at hl 1 rfl) ?_
  refine x_V1 hx hb hml hown hE hS hl.1 cyX7_isCase tw1016 (c_X7_isCase l g h I n ((nI c)) m (by omega) hm) ⟨Nat.le_of_ble_eq_true rfl, Nat.le_of_ble_eq_true rfl⟩ ⟨Nat.le_of_ble_eq_true rfl, Nat.le_of_ble_eq_true rfl⟩ (x_recv hK hH (id := [20]) (by first | trivial | (simp only [xD]; omega) | (simp [xD]; done) | (simp [xD]; omega)) (ci := 7) rfl (by decide) rfl) hH rfl rfl (Nat.le_of_ble_eq_true rfl) dX7_event_3 (fun H locs hH hS => ?_)
  refine lv_if_ne (tgt := 13) hx hb dX7_event_6 (by decide) (fun _ => ?_) (fun q_ => absurd q_ (fun z_ => by rw [sIn_nI hc (by omega)] at z_; exact absurd z_ (by decide)))
  refine lv_iload_n hx hb dX7_event_13 rfl (lv_at hl 2 rfl) ?_
  refine lv_iconst (v := 0) hx hb dX7_event_14 (by decide) ?_
  refine lv_bipush (v := 9) hx hb dX7_event_15 (by decide) ?_
  refine x_S1 hx hb hml hown hE hS hl.1 cyX7_in tw933 (c_X7_in l g h I n y 0 9) ⟨Nat.le_of_ble_eq_true rfl, Nat.le_of_ble_eq_true rfl⟩ ⟨Nat.le_of_ble_eq_true rfl, Nat.le_of_ble_eq_true rfl⟩ hH rfl rfl (Nat.le_of_ble_eq_true rfl) dX7_event_17 (fun H locs hH hS => ?_)
  refine lv_if_ne (tgt := 27) hx hb dX7_event_20 (by decide) (fun q_ => absurd q_ (fun z_ => z_ ((b01_eq0 _).mpr ((mIn_10 y).trans hy)))) (fun _ => ?_)
  refine lv_iconst (v := 2) hx hb dX7_event_23 (by decide) ?_
  refine lv_goto (tgt := 28) hx hb dX7_event_24 (by decide) ?_
  obtain ⟨I1_, hI1_⟩ : ∃ z, z = up I [20] 23 2 := ⟨_, rfl⟩
  refine x_put (C := RX7) (T := TX7) (N := 24) (ci := 7) hx hb hts iu7 tyX7 tyX7_ok nmX7 hown hK hH hS (id := [20]) (by first | trivial | (simp only [xD]; omega) | (simp [xD]; done) | (simp [xD]; omega)) rfl rfl (by decide) 23 (by decide) (hts _ tw862) (fun _ h9 => h9) (Or.inl rfl) (ty := .int) (v := .int 2) (by decide +kernel) rfl rfl (I' := I1_) (F' := (xFh h)) (fun i hi => by rw [hI1_]; exact up_id hi) (fun _ _ => rfl) (fun j9 => by rw [hI1_, up_row]; exact xv_upd (ci := 7) (k := 23) rfl j9) dX7_event_28 (fun H locs hH hS => ?_)
  refine lv_aload_n hx hb dX7_event_31 rfl (lv_at hl 0 rfl) ?_
  refine x_get (C := RX7) (T := TX7) (N := 24) (ci := 7) hx hb hts iu7 hown hK hH (id := [20]) (by first | trivial | (simp only [xD]; omega) | (simp [xD]; done) | (simp [xD]; omega)) rfl rfl (by decide) 23 (by decide) (hts _ tw862) (fun _ h9 => h9) rfl (v := .int 2) (congrArg Value.int (by rw [hI1_]; exact up_at)) dX7_event_32 ?_
  refine lv_if_le (tgt := 40) hx hb dX7_event_35 (by decide) (fun q_ => absurd q_ (by decide)) (fun _ => ?_)
  refine lv_iconst (v := 0) hx hb dX7_event_38 (by decide) ?_
  exact x_iret hx hb hr hlocks hS dX7_event_39 rfl (by rw [hI1_] at hH; exact hH)

set_option maxHeartbeats 1000000 in
set_option maxRecDepth 100000 in
theorem c_X7_event (l : Launch) (g : xG) (h : xS) (I : xI) (n : Nat) (c : Nat) (X : xX) (m : Nat) (hm4 : m ≤ 4) (hm : I [20] 20 = nI m) (hc : c < m) (p : Nat) (hpp : p < 3) (hpo : I [24, 11] c = nI p) (hA : mA h I p) (hW : xWp h I p) (hch : xCh X) (y : Int32) (hy : sIn y 0 10 = true)  : xM l yX7_event (xws yX7_event cX7_event 3 (some FieldType.int)) 19 437 g [.ref (ga g [20]), .int (nI c), .int y] (xR g (xD h) (mW I c X) (xFh h) n) (some (.int (nI (sChg (sTail (vP I p) (vC I p) (sCn h p) (sSz h p) (up2 (sRem X 8) 0 8 y)) (-1) (sSz h p))))) (xR g (xD h) (mW (mKp (up I [20] 23 0) (sRem X 8) 8) c (sTail (vP I p) (vC I p) (sCn h p) (sSz h p) (up2 (sRem X 8) 0 8 y))) (xFh h) n) 0 0 := by
  refine xM.of (by decide) (Nat.le_of_ble_eq_true rfl) ?_
  intro P_ e_ s m_ bl_ mt_ cd_ ls hx hb hr hown hlocks hml hnm hE hK hts hH hS hl
  have hl : lv_has ls 3 [(0, .ref (ga g [20])), (1, .int (nI c)), (2, .int y)] := hl
  have h8 := hW.1
  have hc4 : c < 4 := by omega
  have hchr : xCh (sRem X 8) := fun k => by rw [sRem_2]; exact hch k
  refine lv_aload_n hx hb dX7_event_0 rfl (lv_at hl 0 rfl) ?_
  refine lv_aload_n hx hb dX7_event_1 rfl (lv_at hl 0 rfl) ?_
  refine lv_iload_n hx hb dX7_event_2 rfl (lv_at hl 1 rfl) ?_
  refine x_V1 hx hb hml hown hE hS hl.1 cyX7_isCase tw1016 (c_X7_isCase l g h (mW I c X) n (nI c) m (by omega) (by rw [mW_20 _ _ _ (by decide)]; exact hm)) ⟨Nat.le_of_ble_eq_true rfl, Nat.le_of_ble_eq_true rfl⟩ ⟨Nat.le_of_ble_eq_true rfl, Nat.le_of_ble_eq_true rfl⟩ (x_recv hK hH (id := [20]) (by first | trivial | (simp only [xD]; omega) | (simp [xD]; done) | (simp [xD]; omega)) (ci := 7) rfl (by decide) rfl) hH rfl rfl (Nat.le_of_ble_eq_true rfl) dX7_event_3 (fun H locs hH hS => ?_)
  refine lv_if_ne (tgt := 13) hx hb dX7_event_6 (by decide) (fun _ => ?_) (fun q_ => absurd q_ (fun z_ => by rw [sIn_nI hc (by omega)] at z_; exact absurd z_ (by decide)))
  refine lv_iload_n hx hb dX7_event_13 rfl (lv_at hl 2 rfl) ?_
  refine lv_iconst (v := 0) hx hb dX7_event_14 (by decide) ?_
  refine lv_bipush (v := 9) hx hb dX7_event_15 (by decide) ?_
  refine x_S1 hx hb hml hown hE hS hl.1 cyX7_in tw933 (c_X7_in l g h (mW I c X) n y 0 9) ⟨Nat.le_of_ble_eq_true rfl, Nat.le_of_ble_eq_true rfl⟩ ⟨Nat.le_of_ble_eq_true rfl, Nat.le_of_ble_eq_true rfl⟩ hH rfl rfl (Nat.le_of_ble_eq_true rfl) dX7_event_17 (fun H locs hH hS => ?_)
  refine lv_if_ne (tgt := 27) hx hb dX7_event_20 (by decide) (fun _ => ?_) (fun q_ => absurd q_ (fun z_ => by rw [mIn_10, hy] at z_; exact absurd z_ (by decide)))
  refine lv_iconst (v := 0) hx hb dX7_event_27 (by decide) ?_
  obtain ⟨I1_, hI1_⟩ : ∃ z, z = up I [20] 23 0 := ⟨_, rfl⟩
  refine x_put (C := RX7) (T := TX7) (N := 24) (ci := 7) hx hb hts iu7 tyX7 tyX7_ok nmX7 hown hK hH hS (id := [20]) (by first | trivial | (simp only [xD]; omega) | (simp [xD]; done) | (simp [xD]; omega)) rfl rfl (by decide) 23 (by decide) (hts _ tw862) (fun _ h9 => h9) (Or.inl rfl) (ty := .int) (v := .int 0) (by decide +kernel) rfl rfl (I' := (mW I1_ c X)) (F' := (xFh h)) (fun i hi => by rw [show (mW I1_ c X) = _ from Eq.symm ((mW_u20 _ _ _ _ (by decide)).trans (congrArg (fun z => mW z c X) hI1_.symm))]; exact up_id hi) (fun _ _ => rfl) (fun j9 => by rw [show (mW I1_ c X) = _ from Eq.symm ((mW_u20 _ _ _ _ (by decide)).trans (congrArg (fun z => mW z c X) hI1_.symm)), up_row]; exact xv_upd rfl j9) dX7_event_28 (fun H locs hH hS => ?_)
  have hsm : ∀ id, pK id = true → I1_ id = I id := by rw [hI1_]; exact pK_20 I 23 _
  have hpo1 : I1_ [24, 11] c = nI p := by rw [hI1_]; exact hpo
  have hA1 := hA.same hsm
  have hW1 := hW.same hsm
  have e1 := vP_same hsm p
  have e2 := vC_same hsm p
  rw [← mW_rem] at hH
  refine lv_aload_n hx hb dX7_event_31 rfl (lv_at hl 0 rfl) ?_
  refine x_get (C := RX7) (T := TX7) (N := 24) (ci := 7) hx hb hts iu7 hown hK hH (id := [20]) (by first | trivial | (simp only [xD]; omega) | (simp [xD]; done) | (simp [xD]; omega)) rfl rfl (by decide) 23 (by decide) (hts _ tw862) (fun _ h9 => h9) rfl (v := .int 0) (congrArg Value.int ((mW_20 _ _ _ (by decide)).trans (by rw [hI1_]; exact up_at))) dX7_event_32 ?_
  refine lv_if_le (tgt := 40) hx hb dX7_event_35 (by decide) (fun _ => ?_) (fun q_ => absurd (by decide) q_)
  refine lv_aload_n hx hb dX7_event_40 rfl (lv_at hl 0 rfl) ?_
  refine lv_iload_n hx hb dX7_event_41 rfl (lv_at hl 1 rfl) ?_
  refine x_V0 hx hb hml hown hE hS hl.1 cyX7_keeps tw1024 (c_X7_keeps l g h I1_ n c (sRem X 8) hc4 hchr) ⟨Nat.le_of_ble_eq_true rfl, Nat.le_of_ble_eq_true rfl⟩ ⟨Nat.le_of_ble_eq_true rfl, Nat.le_of_ble_eq_true rfl⟩ (x_recv hK hH (id := [20]) (by first | trivial | (simp only [xD]; omega) | (simp [xD]; done) | (simp [xD]; omega)) (ci := 7) rfl (by decide) rfl) hH rfl rfl (Nat.le_of_ble_eq_true rfl) dX7_event_42 (fun H locs hH hS => ?_)
  obtain ⟨I2_, hI2_⟩ : ∃ z, z = mKp I1_ (sRem X 8) 8 := ⟨_, rfl⟩
  rw [← hI2_] at hH
  have hsm2 : ∀ id, pK id = true → I2_ id = I id := fun id hi => by rw [hI2_, mKp_pK _ _ id hi]; exact hsm id hi
  have hpo2 : I2_ [24, 11] c = nI p := by rw [hI2_, mKp_ne _ _ _ (by decide)]; exact hpo1
  have hA2 := hA.same hsm2
  have hW2 := hW.same hsm2
  have e12 := vP_same hsm2 p
  have e22 := vC_same hsm2 p
  have hK2 : ∀ k, k < 8 → I2_ [24, 22] k = X 2 k := fun k hk => by rw [hI2_, mKp_at _ _ hk, sRem_2]
  refine lv_aload_n hx hb dX7_event_45 rfl (lv_at hl 0 rfl) ?_
  refine lv_iload_n hx hb dX7_event_46 rfl (lv_at hl 2 rfl) ?_
  obtain ⟨X3_, hX3_⟩ : ∃ z, z = up2 (sRem X 8) 0 8 y := ⟨_, rfl⟩
  refine x_put (C := RX7) (T := TX7) (N := 24) (ci := 7) hx hb hts iu7 tyX7 tyX7_ok nmX7 hown hK hH hS (id := [20]) (by first | trivial | (simp only [xD]; omega) | (simp [xD]; done) | (simp [xD]; omega)) rfl rfl (by decide) 21 (by decide) (hts _ tw860) (fun _ h9 => h9) (Or.inl rfl) (ty := .int) (v := .int y) (by decide +kernel) rfl rfl (I' := (mW I2_ c X3_)) (F' := (xFh h)) (fun i hi => by rw [show (mW I2_ c X3_) = _ from Eq.symm ((mW_u0_8 _ _ _ _).trans (congrArg (mW I2_ c) hX3_.symm))]; exact up_id hi) (fun _ _ => rfl) (fun j9 => by rw [show (mW I2_ c X3_) = _ from Eq.symm ((mW_u0_8 _ _ _ _).trans (congrArg (mW I2_ c) hX3_.symm)), up_row]; exact xv_upd rfl j9) dX7_event_47 (fun H locs hH hS => ?_)
  subst hX3_
  refine lv_aload_n hx hb dX7_event_50 rfl (lv_at hl 0 rfl) ?_
  refine lv_iload_n hx hb dX7_event_51 rfl (lv_at hl 1 rfl) ?_
  refine x_V0 hx hb hml hown hE hS hl.1 cyX7_goes tw984 (c_X7_goes l g h I2_ n c (up2 (sRem X 8) 0 8 y) hc4 p hpp hpo2 hA2 hW2) ⟨Nat.le_of_ble_eq_true rfl, Nat.le_of_ble_eq_true rfl⟩ ⟨Nat.le_of_ble_eq_true rfl, Nat.le_of_ble_eq_true rfl⟩ (x_recv hK hH (id := [20]) (by first | trivial | (simp only [xD]; omega) | (simp [xD]; done) | (simp [xD]; omega)) (ci := 7) rfl (by decide) rfl) hH rfl rfl (Nat.le_of_ble_eq_true rfl) dX7_event_52 (fun H locs hH hS => ?_)
  rw [e12, e22] at hH
  refine lv_aload_n hx hb dX7_event_55 rfl (lv_at hl 0 rfl) ?_
  refine lv_iload_n hx hb dX7_event_56 rfl (lv_at hl 1 rfl) ?_
  refine lv_iconst (v := (-1)) hx hb dX7_event_57 (by decide) ?_
  refine x_V1 hx hb hml hown hE hS hl.1 cyX7_changed tw1028 (c_X7_changed l g h I2_ n c (sTail (vP I p) (vC I p) (sCn h p) (sSz h p) (up2 (sRem X 8) 0 8 y)) hc4 p hpp hpo2 hA2 hW2 (-1) (fun k hk => by rw [hK2 k hk, sTail_3, up2_f _ _ _ (by decide)]; exact (if_pos ⟨rfl, hk⟩).symm)) ⟨Nat.le_of_ble_eq_true rfl, Nat.le_of_ble_eq_true rfl⟩ ⟨Nat.le_of_ble_eq_true rfl, Nat.le_of_ble_eq_true rfl⟩ (x_recv hK hH (id := [20]) (by first | trivial | (simp only [xD]; omega) | (simp [xD]; done) | (simp [xD]; omega)) (ci := 7) rfl (by decide) rfl) hH rfl rfl (Nat.le_of_ble_eq_true rfl) dX7_event_58 (fun H locs hH hS => ?_)
  exact x_iret hx hb hr hlocks hS dX7_event_61 rfl (by rw [hI2_, hI1_] at hH; exact hH)

set_option maxHeartbeats 1000000 in
set_option maxRecDepth 100000 in
theorem c_X7_complete_c (l : Launch) (g : xG) (h : xS) (I : xI) (n : Nat) (m : Nat) (hm4 : m ≤ 4) (hm : I [20] 20 = nI m) (x y : Int32) (hxb : sIn x 0 (nI m) = false)  : xM l yX7_complete (xws yX7_complete cX7_complete 3 (some FieldType.int)) 4 77 g [.ref (ga g [20]), .int x, .int y] (xR g (xD h) I (xFh h) n) (some (.int 0)) (xR g (xD h) (up I [20] 23 1) (xFh h) n) 0 0 := by
  refine xM.of (by decide) (Nat.le_of_ble_eq_true rfl) ?_
  intro P_ e_ s m_ bl_ mt_ cd_ ls hx hb hr hown hlocks hml hnm hE hK hts hH hS hl
  have hl : lv_has ls 3 [(0, .ref (ga g [20])), (1, .int x), (2, .int y)] := hl
  refine lv_aload_n hx hb dX7_complete_0 rfl (lv_at hl 0 rfl) ?_
  refine lv_aload_n hx hb dX7_complete_1 rfl (lv_at hl 0 rfl) ?_
  refine lv_iload_n hx hb dX7_complete_2 rfl (lv_at hl 1 rfl) ?_
  refine lv_iload_n hx hb dX7_complete_3 rfl (lv_at hl 2 rfl) ?_
  refine x_V1 hx hb hml hown hE hS hl.1 cyX7_isStepOf tw1036 (c_X7_isStepOf_0 l g h I n m hm4 hm x y hxb) ⟨Nat.le_of_ble_eq_true rfl, Nat.le_of_ble_eq_true rfl⟩ ⟨Nat.le_of_ble_eq_true rfl, Nat.le_of_ble_eq_true rfl⟩ (x_recv hK hH (id := [20]) (by first | trivial | (simp only [xD]; omega) | (simp [xD]; done) | (simp [xD]; omega)) (ci := 7) rfl (by decide) rfl) hH rfl rfl (Nat.le_of_ble_eq_true rfl) dX7_complete_4 (fun H locs hH hS => ?_)
  refine lv_if_ne (tgt := 14) hx hb dX7_complete_7 (by decide) (fun q_ => absurd (by decide) q_) (fun _ => ?_)
  refine lv_iconst (v := 1) hx hb dX7_complete_10 (by decide) ?_
  refine lv_goto (tgt := 54) hx hb dX7_complete_11 (by decide) ?_
  obtain ⟨I1_, hI1_⟩ : ∃ z, z = up I [20] 23 1 := ⟨_, rfl⟩
  refine x_put (C := RX7) (T := TX7) (N := 24) (ci := 7) hx hb hts iu7 tyX7 tyX7_ok nmX7 hown hK hH hS (id := [20]) (by first | trivial | (simp only [xD]; omega) | (simp [xD]; done) | (simp [xD]; omega)) rfl rfl (by decide) 23 (by decide) (hts _ tw862) (fun _ h9 => h9) (Or.inl rfl) (ty := .int) (v := .int 1) (by decide +kernel) rfl rfl (I' := I1_) (F' := (xFh h)) (fun i hi => by rw [hI1_]; exact up_id hi) (fun _ _ => rfl) (fun j9 => by rw [hI1_, up_row]; exact xv_upd (ci := 7) (k := 23) rfl j9) dX7_complete_54 (fun H locs hH hS => ?_)
  refine lv_aload_n hx hb dX7_complete_57 rfl (lv_at hl 0 rfl) ?_
  refine x_get (C := RX7) (T := TX7) (N := 24) (ci := 7) hx hb hts iu7 hown hK hH (id := [20]) (by first | trivial | (simp only [xD]; omega) | (simp [xD]; done) | (simp [xD]; omega)) rfl rfl (by decide) 23 (by decide) (hts _ tw862) (fun _ h9 => h9) rfl (v := .int 1) (congrArg Value.int (by rw [hI1_]; exact up_at)) dX7_complete_58 ?_
  refine lv_if_le (tgt := 66) hx hb dX7_complete_61 (by decide) (fun q_ => absurd q_ (by decide)) (fun _ => ?_)
  refine lv_iconst (v := 0) hx hb dX7_complete_64 (by decide) ?_
  exact x_iret hx hb hr hlocks hS dX7_complete_65 rfl (by rw [hI1_] at hH; exact hH)

set_option maxHeartbeats 1000000 in
set_option maxRecDepth 100000 in
theorem c_X7_complete_s (l : Launch) (g : xG) (h : xS) (I : xI) (n : Nat) (q : Nat) (hq : q ≤ 3) (hz : I [20] 10 = nI q) (p : Nat) (hp : p < q) (k : Nat) (hk : k ≤ 8) (hs : I [24, 8] p = nI k) (m : Nat) (hm4 : m ≤ 4) (hm : I [20] 20 = nI m) (c : Nat) (hc : c < m) (hpo : I [24, 11] c = nI p) (y : Int32) (hy : sIn y 0 (nI k) = false)  : xM l yX7_complete (xws yX7_complete cX7_complete 3 (some FieldType.int)) 5 99 g [.ref (ga g [20]), .int (nI c), .int y] (xR g (xD h) I (xFh h) n) (some (.int 0)) (xR g (xD h) (up I [20] 23 1) (xFh h) n) 0 0 := by
  refine xM.of (by decide) (Nat.le_of_ble_eq_true rfl) ?_
  intro P_ e_ s m_ bl_ mt_ cd_ ls hx hb hr hown hlocks hml hnm hE hK hts hH hS hl
  have hl : lv_has ls 3 [(0, .ref (ga g [20])), (1, .int (nI c)), (2, .int y)] := hl
  refine lv_aload_n hx hb dX7_complete_0 rfl (lv_at hl 0 rfl) ?_
  refine lv_aload_n hx hb dX7_complete_1 rfl (lv_at hl 0 rfl) ?_
  refine lv_iload_n hx hb dX7_complete_2 rfl (lv_at hl 1 rfl) ?_
  refine lv_iload_n hx hb dX7_complete_3 rfl (lv_at hl 2 rfl) ?_
  refine x_V1 hx hb hml hown hE hS hl.1 cyX7_isStepOf tw1036 (c_X7_isStepOf_1 l g h I n q hq hz p hp k hk hs m hm4 hm c hc hpo y) ⟨Nat.le_of_ble_eq_true rfl, Nat.le_of_ble_eq_true rfl⟩ ⟨Nat.le_of_ble_eq_true rfl, Nat.le_of_ble_eq_true rfl⟩ (x_recv hK hH (id := [20]) (by first | trivial | (simp only [xD]; omega) | (simp [xD]; done) | (simp [xD]; omega)) (ci := 7) rfl (by decide) rfl) hH rfl rfl (Nat.le_of_ble_eq_true rfl) dX7_complete_4 (fun H locs hH hS => ?_)
  refine lv_if_ne (tgt := 14) hx hb dX7_complete_7 (by decide) (fun q_ => absurd q_ (fun z_ => z_ ((b01_eq0 _).mpr hy))) (fun _ => ?_)
  refine lv_iconst (v := 1) hx hb dX7_complete_10 (by decide) ?_
  refine lv_goto (tgt := 54) hx hb dX7_complete_11 (by decide) ?_
  obtain ⟨I1_, hI1_⟩ : ∃ z, z = up I [20] 23 1 := ⟨_, rfl⟩
  refine x_put (C := RX7) (T := TX7) (N := 24) (ci := 7) hx hb hts iu7 tyX7 tyX7_ok nmX7 hown hK hH hS (id := [20]) (by first | trivial | (simp only [xD]; omega) | (simp [xD]; done) | (simp [xD]; omega)) rfl rfl (by decide) 23 (by decide) (hts _ tw862) (fun _ h9 => h9) (Or.inl rfl) (ty := .int) (v := .int 1) (by decide +kernel) rfl rfl (I' := I1_) (F' := (xFh h)) (fun i hi => by rw [hI1_]; exact up_id hi) (fun _ _ => rfl) (fun j9 => by rw [hI1_, up_row]; exact xv_upd (ci := 7) (k := 23) rfl j9) dX7_complete_54 (fun H locs hH hS => ?_)
  refine lv_aload_n hx hb dX7_complete_57 rfl (lv_at hl 0 rfl) ?_
  refine x_get (C := RX7) (T := TX7) (N := 24) (ci := 7) hx hb hts iu7 hown hK hH (id := [20]) (by first | trivial | (simp only [xD]; omega) | (simp [xD]; done) | (simp [xD]; omega)) rfl rfl (by decide) 23 (by decide) (hts _ tw862) (fun _ h9 => h9) rfl (v := .int 1) (congrArg Value.int (by rw [hI1_]; exact up_at)) dX7_complete_58 ?_
  refine lv_if_le (tgt := 66) hx hb dX7_complete_61 (by decide) (fun q_ => absurd q_ (by decide)) (fun _ => ?_)
  refine lv_iconst (v := 0) hx hb dX7_complete_64 (by decide) ?_
  exact x_iret hx hb hr hlocks hS dX7_complete_65 rfl (by rw [hI1_] at hH; exact hH)

set_option maxHeartbeats 1000000 in
set_option maxRecDepth 100000 in
theorem c_X7_complete_k (l : Launch) (g : xG) (h : xS) (I : xI) (n : Nat) (q : Nat) (hq : q ≤ 3) (hz : I [20] 10 = nI q) (p : Nat) (hp : p < q) (k : Nat) (hk : k ≤ 8) (hs : I [24, 8] p = nI k) (m : Nat) (hm4 : m ≤ 4) (hm : I [20] 20 = nI m) (c : Nat) (hc : c < m) (hpo : I [24, 11] c = nI p) (j : Nat) (hj : j < k) (hk9 : ¬ I [22, 0, p] j = 116)  : xM l yX7_complete (xws yX7_complete cX7_complete 3 (some FieldType.int)) 5 99 g [.ref (ga g [20]), .int (nI c), .int (nI j)] (xR g (xD h) I (xFh h) n) (some (.int 0)) (xR g (xD h) (up I [20] 23 2) (xFh h) n) 0 0 := by
  refine xM.of (by decide) (Nat.le_of_ble_eq_true rfl) ?_
  intro P_ e_ s m_ bl_ mt_ cd_ ls hx hb hr hown hlocks hml hnm hE hK hts hH hS hl
  have hl : lv_has ls 3 [(0, .ref (ga g [20])), (1, .int (nI c)), (2, .int (nI j))] := hl
  refine lv_aload_n hx hb dX7_complete_0 rfl (lv_at hl 0 rfl) ?_
  refine lv_aload_n hx hb dX7_complete_1 rfl (lv_at hl 0 rfl) ?_
  refine lv_iload_n hx hb dX7_complete_2 rfl (lv_at hl 1 rfl) ?_
  refine lv_iload_n hx hb dX7_complete_3 rfl (lv_at hl 2 rfl) ?_
  refine x_V1 hx hb hml hown hE hS hl.1 cyX7_isStepOf tw1036 (c_X7_isStepOf_1 l g h I n q hq hz p hp k hk hs m hm4 hm c hc hpo (nI j)) ⟨Nat.le_of_ble_eq_true rfl, Nat.le_of_ble_eq_true rfl⟩ ⟨Nat.le_of_ble_eq_true rfl, Nat.le_of_ble_eq_true rfl⟩ (x_recv hK hH (id := [20]) (by first | trivial | (simp only [xD]; omega) | (simp [xD]; done) | (simp [xD]; omega)) (ci := 7) rfl (by decide) rfl) hH rfl rfl (Nat.le_of_ble_eq_true rfl) dX7_complete_4 (fun H locs hH hS => ?_)
  refine lv_if_ne (tgt := 14) hx hb dX7_complete_7 (by decide) (fun _ => ?_) (fun q_ => absurd q_ (fun z_ => by rw [sIn_nI hj (by omega)] at z_; exact absurd z_ (by decide)))
  refine lv_aload_n hx hb dX7_complete_14 rfl (lv_at hl 0 rfl) ?_
  refine x_get (C := RX7) (T := TX7) (N := 24) (ci := 7) hx hb hts iu7 hown hK hH (id := [20]) (by first | trivial | (simp only [xD]; omega) | (simp [xD]; done) | (simp [xD]; omega)) rfl rfl (by decide) 0 (by decide) (hts _ tw839) (fun _ h9 => h9) rfl (v := .ref (ga g [21, 0])) rfl dX7_complete_15 ?_
  refine lv_aload_n hx hb dX7_complete_18 rfl (lv_at hl 0 rfl) ?_
  refine x_get (C := RX7) (T := TX7) (N := 24) (ci := 7) hx hb hts iu7 hown hK hH (id := [20]) (by first | trivial | (simp only [xD]; omega) | (simp [xD]; done) | (simp [xD]; omega)) rfl rfl (by decide) 11 (by decide) (hts _ tw850) (fun _ h9 => h9) rfl (v := .ref (ga g [24, 11])) rfl dX7_complete_19 ?_
  refine lv_iload_n hx hb dX7_complete_22 rfl (lv_at hl 1 rfl) ?_
  refine x_iald hx hb hK hH (id := [24, 11]) (by first | trivial | (simp only [xD]; omega) | (simp [xD]; done) | (simp [xD]; omega)) (L := 4) rfl rfl c rfl (by omega) (by decide) dX7_complete_23 ?_
  rw [show (I [24, 11] c) = (nI p) from (hpo)]
  refine x_aald hx hb hK hH (id := [21, 0]) (by first | trivial | (simp only [xD]; omega) | (simp [xD]; done) | (simp [xD]; omega)) 8 (L := 3) rfl (by decide) p rfl (by omega) (by decide) (v := .ref (ga g [22, 0, p])) (by show rq _ (if _ then _ else _) = _; rw [if_pos (show p < xLn 0 by show _ < 3; omega)]; rfl) dX7_complete_24 ?_
  refine lv_iload_n hx hb dX7_complete_25 rfl (lv_at hl 2 rfl) ?_
  refine x_cald hx hb hK hH (id := [22, 0, p]) (by first | trivial | (simp only [xD]; omega) | (simp [xD]; done) | (simp [xD]; omega)) (L := 8) rfl rfl j rfl (by omega) (by decide) dX7_complete_26 ?_
  refine lv_bipush (v := 116) hx hb dX7_complete_27 (by decide) ?_
  refine lv_icmp_eq (tgt := 36) hx hb dX7_complete_29 (by decide) (fun q_ => absurd q_ hk9) (fun _ => ?_)
  refine lv_iconst (v := 2) hx hb dX7_complete_32 (by decide) ?_
  refine lv_goto (tgt := 54) hx hb dX7_complete_33 (by decide) ?_
  obtain ⟨I1_, hI1_⟩ : ∃ z, z = up I [20] 23 2 := ⟨_, rfl⟩
  refine x_put (C := RX7) (T := TX7) (N := 24) (ci := 7) hx hb hts iu7 tyX7 tyX7_ok nmX7 hown hK hH hS (id := [20]) (by first | trivial | (simp only [xD]; omega) | (simp [xD]; done) | (simp [xD]; omega)) rfl rfl (by decide) 23 (by decide) (hts _ tw862) (fun _ h9 => h9) (Or.inl rfl) (ty := .int) (v := .int 2) (by decide +kernel) rfl rfl (I' := I1_) (F' := (xFh h)) (fun i hi => by rw [hI1_]; exact up_id hi) (fun _ _ => rfl) (fun j9 => by rw [hI1_, up_row]; exact xv_upd (ci := 7) (k := 23) rfl j9) dX7_complete_54 (fun H locs hH hS => ?_)
  refine lv_aload_n hx hb dX7_complete_57 rfl (lv_at hl 0 rfl) ?_
  refine x_get (C := RX7) (T := TX7) (N := 24) (ci := 7) hx hb hts iu7 hown hK hH (id := [20]) (by first | trivial | (simp only [xD]; omega) | (simp [xD]; done) | (simp [xD]; omega)) rfl rfl (by decide) 23 (by decide) (hts _ tw862) (fun _ h9 => h9) rfl (v := .int 2) (congrArg Value.int (by rw [hI1_]; exact up_at)) dX7_complete_58 ?_
  refine lv_if_le (tgt := 66) hx hb dX7_complete_61 (by decide) (fun q_ => absurd q_ (by decide)) (fun _ => ?_)
  refine lv_iconst (v := 0) hx hb dX7_complete_64 (by decide) ?_
  exact x_iret hx hb hr hlocks hS dX7_complete_65 rfl (by rw [hI1_] at hH; exact hH)

set_option maxHeartbeats 1000000 in
set_option maxRecDepth 100000 in
theorem c_X7_complete_a (l : Launch) (g : xG) (h : xS) (I : xI) (n : Nat) (q : Nat) (hq : q ≤ 3) (hz : I [20] 10 = nI q) (p : Nat) (hp : p < q) (k : Nat) (hk : k ≤ 8) (hs : I [24, 8] p = nI k) (m : Nat) (hm4 : m ≤ 4) (hm : I [20] 20 = nI m) (c : Nat) (hc : c < m) (hpo : I [24, 11] c = nI p) (j : Nat) (hj : j < k) (hk9 : I [22, 0, p] j = 116) (ha9 : ¬ I [22, 14, c] j = 97)  : xM l yX7_complete (xws yX7_complete cX7_complete 3 (some FieldType.int)) 5 99 g [.ref (ga g [20]), .int (nI c), .int (nI j)] (xR g (xD h) I (xFh h) n) (some (.int 0)) (xR g (xD h) (up I [20] 23 3) (xFh h) n) 0 0 := by
  refine xM.of (by decide) (Nat.le_of_ble_eq_true rfl) ?_
  intro P_ e_ s m_ bl_ mt_ cd_ ls hx hb hr hown hlocks hml hnm hE hK hts hH hS hl
  have hl : lv_has ls 3 [(0, .ref (ga g [20])), (1, .int (nI c)), (2, .int (nI j))] := hl
  refine lv_aload_n hx hb dX7_complete_0 rfl (lv_at hl 0 rfl) ?_
  refine lv_aload_n hx hb dX7_complete_1 rfl (lv_at hl 0 rfl) ?_
  refine lv_iload_n hx hb dX7_complete_2 rfl (lv_at hl 1 rfl) ?_
  refine lv_iload_n hx hb dX7_complete_3 rfl (lv_at hl 2 rfl) ?_
  refine x_V1 hx hb hml hown hE hS hl.1 cyX7_isStepOf tw1036 (c_X7_isStepOf_1 l g h I n q hq hz p hp k hk hs m hm4 hm c hc hpo (nI j)) ⟨Nat.le_of_ble_eq_true rfl, Nat.le_of_ble_eq_true rfl⟩ ⟨Nat.le_of_ble_eq_true rfl, Nat.le_of_ble_eq_true rfl⟩ (x_recv hK hH (id := [20]) (by first | trivial | (simp only [xD]; omega) | (simp [xD]; done) | (simp [xD]; omega)) (ci := 7) rfl (by decide) rfl) hH rfl rfl (Nat.le_of_ble_eq_true rfl) dX7_complete_4 (fun H locs hH hS => ?_)
  refine lv_if_ne (tgt := 14) hx hb dX7_complete_7 (by decide) (fun _ => ?_) (fun q_ => absurd q_ (fun z_ => by rw [sIn_nI hj (by omega)] at z_; exact absurd z_ (by decide)))
  refine lv_aload_n hx hb dX7_complete_14 rfl (lv_at hl 0 rfl) ?_
  refine x_get (C := RX7) (T := TX7) (N := 24) (ci := 7) hx hb hts iu7 hown hK hH (id := [20]) (by first | trivial | (simp only [xD]; omega) | (simp [xD]; done) | (simp [xD]; omega)) rfl rfl (by decide) 0 (by decide) (hts _ tw839) (fun _ h9 => h9) rfl (v := .ref (ga g [21, 0])) rfl dX7_complete_15 ?_
  refine lv_aload_n hx hb dX7_complete_18 rfl (lv_at hl 0 rfl) ?_
  refine x_get (C := RX7) (T := TX7) (N := 24) (ci := 7) hx hb hts iu7 hown hK hH (id := [20]) (by first | trivial | (simp only [xD]; omega) | (simp [xD]; done) | (simp [xD]; omega)) rfl rfl (by decide) 11 (by decide) (hts _ tw850) (fun _ h9 => h9) rfl (v := .ref (ga g [24, 11])) rfl dX7_complete_19 ?_
  refine lv_iload_n hx hb dX7_complete_22 rfl (lv_at hl 1 rfl) ?_
  refine x_iald hx hb hK hH (id := [24, 11]) (by first | trivial | (simp only [xD]; omega) | (simp [xD]; done) | (simp [xD]; omega)) (L := 4) rfl rfl c rfl (by omega) (by decide) dX7_complete_23 ?_
  rw [show (I [24, 11] c) = (nI p) from (hpo)]
  refine x_aald hx hb hK hH (id := [21, 0]) (by first | trivial | (simp only [xD]; omega) | (simp [xD]; done) | (simp [xD]; omega)) 8 (L := 3) rfl (by decide) p rfl (by omega) (by decide) (v := .ref (ga g [22, 0, p])) (by show rq _ (if _ then _ else _) = _; rw [if_pos (show p < xLn 0 by show _ < 3; omega)]; rfl) dX7_complete_24 ?_
  refine lv_iload_n hx hb dX7_complete_25 rfl (lv_at hl 2 rfl) ?_
  refine x_cald hx hb hK hH (id := [22, 0, p]) (by first | trivial | (simp only [xD]; omega) | (simp [xD]; done) | (simp [xD]; omega)) (L := 8) rfl rfl j rfl (by omega) (by decide) dX7_complete_26 ?_
  refine lv_bipush (v := 116) hx hb dX7_complete_27 (by decide) ?_
  refine lv_icmp_eq (tgt := 36) hx hb dX7_complete_29 (by decide) (fun _ => ?_) (fun q_ => absurd hk9 q_)
  refine lv_aload_n hx hb dX7_complete_36 rfl (lv_at hl 0 rfl) ?_
  refine x_get (C := RX7) (T := TX7) (N := 24) (ci := 7) hx hb hts iu7 hown hK hH (id := [20]) (by first | trivial | (simp only [xD]; omega) | (simp [xD]; done) | (simp [xD]; omega)) rfl rfl (by decide) 14 (by decide) (hts _ tw853) (fun _ h9 => h9) rfl (v := .ref (ga g [21, 14])) rfl dX7_complete_37 ?_
  refine lv_iload_n hx hb dX7_complete_40 rfl (lv_at hl 1 rfl) ?_
  refine x_aald hx hb hK hH (id := [21, 14]) (by first | trivial | (simp only [xD]; omega) | (simp [xD]; done) | (simp [xD]; omega)) 8 (L := 4) rfl (by decide) c rfl (by omega) (by decide) (v := .ref (ga g [22, 14, c])) (by show rq _ (if _ then _ else _) = _; rw [if_pos (show c < xLn 14 by show _ < 4; omega)]; rfl) dX7_complete_41 ?_
  refine lv_iload_n hx hb dX7_complete_42 rfl (lv_at hl 2 rfl) ?_
  refine x_cald hx hb hK hH (id := [22, 14, c]) (by first | trivial | (simp only [xD]; omega) | (simp [xD]; done) | (simp [xD]; omega)) (L := 8) rfl rfl j rfl (by omega) (by decide) dX7_complete_43 ?_
  refine lv_bipush (v := 97) hx hb dX7_complete_44 (by decide) ?_
  refine lv_icmp_eq (tgt := 53) hx hb dX7_complete_46 (by decide) (fun q_ => absurd q_ ha9) (fun _ => ?_)
  refine lv_iconst (v := 3) hx hb dX7_complete_49 (by decide) ?_
  refine lv_goto (tgt := 54) hx hb dX7_complete_50 (by decide) ?_
  obtain ⟨I1_, hI1_⟩ : ∃ z, z = up I [20] 23 3 := ⟨_, rfl⟩
  refine x_put (C := RX7) (T := TX7) (N := 24) (ci := 7) hx hb hts iu7 tyX7 tyX7_ok nmX7 hown hK hH hS (id := [20]) (by first | trivial | (simp only [xD]; omega) | (simp [xD]; done) | (simp [xD]; omega)) rfl rfl (by decide) 23 (by decide) (hts _ tw862) (fun _ h9 => h9) (Or.inl rfl) (ty := .int) (v := .int 3) (by decide +kernel) rfl rfl (I' := I1_) (F' := (xFh h)) (fun i hi => by rw [hI1_]; exact up_id hi) (fun _ _ => rfl) (fun j9 => by rw [hI1_, up_row]; exact xv_upd (ci := 7) (k := 23) rfl j9) dX7_complete_54 (fun H locs hH hS => ?_)
  refine lv_aload_n hx hb dX7_complete_57 rfl (lv_at hl 0 rfl) ?_
  refine x_get (C := RX7) (T := TX7) (N := 24) (ci := 7) hx hb hts iu7 hown hK hH (id := [20]) (by first | trivial | (simp only [xD]; omega) | (simp [xD]; done) | (simp [xD]; omega)) rfl rfl (by decide) 23 (by decide) (hts _ tw862) (fun _ h9 => h9) rfl (v := .int 3) (congrArg Value.int (by rw [hI1_]; exact up_at)) dX7_complete_58 ?_
  refine lv_if_le (tgt := 66) hx hb dX7_complete_61 (by decide) (fun q_ => absurd q_ (by decide)) (fun _ => ?_)
  refine lv_iconst (v := 0) hx hb dX7_complete_64 (by decide) ?_
  exact x_iret hx hb hr hlocks hS dX7_complete_65 rfl (by rw [hI1_] at hH; exact hH)

set_option maxHeartbeats 1000000 in
set_option maxRecDepth 100000 in
theorem c_X7_complete (l : Launch) (g : xG) (h : xS) (I : xI) (n : Nat) (c : Nat) (X : xX) (m : Nat) (hm4 : m ≤ 4) (hm : I [20] 20 = nI m) (hc : c < m) (p : Nat) (hpp : p < 3) (hpo : I [24, 11] c = nI p) (hA : mA h I p) (hW : xWp h I p) (hch : xCh X) (q : Nat) (hq : q ≤ 3) (hz : I [20] 10 = nI q) (hp : p < q) (j : Nat) (hj : j < sSz h p) (hk9 : I [7, p, j] 0 = 116) (ha9 : X 2 j = 97)  : xM l yX7_complete (xws yX7_complete cX7_complete 3 (some FieldType.int)) 19 437 g [.ref (ga g [20]), .int (nI c), .int (nI j)] (xR g (xD h) (mW I c X) (xFh h) n) (some (.int (nI (sChg (sTail (vP I p) (vC I p) (sCn h p) (sSz h p) (up2 (sRem X 8) 2 j 99)) (nI j) (sSz h p))))) (xR g (xD h) (mW (mKp (up I [20] 23 0) (sRem X 8) 8) c (sTail (vP I p) (vC I p) (sCn h p) (sSz h p) (up2 (sRem X 8) 2 j 99))) (xFh h) n) 0 0 := by
  refine xM.of (by decide) (Nat.le_of_ble_eq_true rfl) ?_
  intro P_ e_ s m_ bl_ mt_ cd_ ls hx hb hr hown hlocks hml hnm hE hK hts hH hS hl
  have hl : lv_has ls 3 [(0, .ref (ga g [20])), (1, .int (nI c)), (2, .int (nI j))] := hl
  have h8 := hW.1
  have hc4 : c < 4 := by omega
  have hchr : xCh (sRem X 8) := fun k => by rw [sRem_2]; exact hch k
  refine lv_aload_n hx hb dX7_complete_0 rfl (lv_at hl 0 rfl) ?_
  refine lv_aload_n hx hb dX7_complete_1 rfl (lv_at hl 0 rfl) ?_
  refine lv_iload_n hx hb dX7_complete_2 rfl (lv_at hl 1 rfl) ?_
  refine lv_iload_n hx hb dX7_complete_3 rfl (lv_at hl 2 rfl) ?_
  refine x_V1 hx hb hml hown hE hS hl.1 cyX7_isStepOf tw1036 (c_X7_isStepOf_1 l g h (mW I c X) n q hq (by rw [mW_20 _ _ _ (by decide)]; exact hz) p hp (sSz h p) h8 hA.1 m hm4 (by rw [mW_20 _ _ _ (by decide)]; exact hm) c hc hpo (nI j)) ⟨Nat.le_of_ble_eq_true rfl, Nat.le_of_ble_eq_true rfl⟩ ⟨Nat.le_of_ble_eq_true rfl, Nat.le_of_ble_eq_true rfl⟩ (x_recv hK hH (id := [20]) (by first | trivial | (simp only [xD]; omega) | (simp [xD]; done) | (simp [xD]; omega)) (ci := 7) rfl (by decide) rfl) hH rfl rfl (Nat.le_of_ble_eq_true rfl) dX7_complete_4 (fun H locs hH hS => ?_)
  refine lv_if_ne (tgt := 14) hx hb dX7_complete_7 (by decide) (fun _ => ?_) (fun q_ => absurd q_ (fun z_ => by rw [sIn_nI hj (by omega)] at z_; exact absurd z_ (by decide)))
  refine lv_aload_n hx hb dX7_complete_14 rfl (lv_at hl 0 rfl) ?_
  refine x_get (C := RX7) (T := TX7) (N := 24) (ci := 7) hx hb hts iu7 hown hK hH (id := [20]) (by first | trivial | (simp only [xD]; omega) | (simp [xD]; done) | (simp [xD]; omega)) rfl rfl (by decide) 0 (by decide) (hts _ tw839) (fun _ h9 => h9) rfl (v := .ref (ga g [21, 0])) rfl dX7_complete_15 ?_
  refine lv_aload_n hx hb dX7_complete_18 rfl (lv_at hl 0 rfl) ?_
  refine x_get (C := RX7) (T := TX7) (N := 24) (ci := 7) hx hb hts iu7 hown hK hH (id := [20]) (by first | trivial | (simp only [xD]; omega) | (simp [xD]; done) | (simp [xD]; omega)) rfl rfl (by decide) 11 (by decide) (hts _ tw850) (fun _ h9 => h9) rfl (v := .ref (ga g [24, 11])) rfl dX7_complete_19 ?_
  refine lv_iload_n hx hb dX7_complete_22 rfl (lv_at hl 1 rfl) ?_
  refine x_iald hx hb hK hH (id := [24, 11]) (by first | trivial | (simp only [xD]; omega) | (simp [xD]; done) | (simp [xD]; omega)) (L := 4) rfl (r := (I [24, 11])) rfl c rfl (by omega) (by decide) dX7_complete_23 ?_
  rw [show (I [24, 11] c) = (nI p) from hpo]
  refine x_aald hx hb hK hH (id := [21, 0]) (by first | trivial | (simp only [xD]; omega) | (simp [xD]; done) | (simp [xD]; omega)) 8 (L := 3) rfl (by decide) p rfl (by omega) (by decide) (v := .ref (ga g [22, 0, p])) (by show rq _ (if _ then _ else _) = _; rw [if_pos (show p < xLn 0 by show _ < 3; omega)]; rfl) dX7_complete_24 ?_
  refine lv_iload_n hx hb dX7_complete_25 rfl (lv_at hl 2 rfl) ?_
  refine x_cald hx hb hK hH (id := [22, 0, p]) (by first | trivial | (simp only [xD]; omega) | (simp [xD]; done) | (simp [xD]; omega)) (L := 8) rfl (r := (I [22, 0, p])) rfl j rfl (by omega) (by decide) dX7_complete_26 ?_
  rw [show (I [22, 0, p] j) = (I [7, p, j] 0) from (hA.2 j (by omega)).1]
  refine lv_bipush (v := 116) hx hb dX7_complete_27 (by decide) ?_
  refine lv_icmp_eq (tgt := 36) hx hb dX7_complete_29 (by decide) (fun _ => ?_) (fun q_ => absurd hk9 q_)
  refine lv_aload_n hx hb dX7_complete_36 rfl (lv_at hl 0 rfl) ?_
  refine x_get (C := RX7) (T := TX7) (N := 24) (ci := 7) hx hb hts iu7 hown hK hH (id := [20]) (by first | trivial | (simp only [xD]; omega) | (simp [xD]; done) | (simp [xD]; omega)) rfl rfl (by decide) 14 (by decide) (hts _ tw853) (fun _ h9 => h9) rfl (v := .ref (ga g [21, 14])) rfl dX7_complete_37 ?_
  refine lv_iload_n hx hb dX7_complete_40 rfl (lv_at hl 1 rfl) ?_
  refine x_aald hx hb hK hH (id := [21, 14]) (by first | trivial | (simp only [xD]; omega) | (simp [xD]; done) | (simp [xD]; omega)) 8 (L := 4) rfl (by decide) c rfl (by omega) (by decide) (v := .ref (ga g [22, 14, c])) (by show rq _ (if _ then _ else _) = _; rw [if_pos (show c < xLn 14 by show _ < 4; omega)]; rfl) dX7_complete_41 ?_
  refine lv_iload_n hx hb dX7_complete_42 rfl (lv_at hl 2 rfl) ?_
  refine x_cald hx hb hK hH (id := [22, 14, c]) (by first | trivial | (simp only [xD]; omega) | (simp [xD]; done) | (simp [xD]; omega)) (L := 8) rfl (r := (X 2)) (mW_r2 _ _ _) j rfl (by omega) (by decide) dX7_complete_43 ?_
  refine lv_bipush (v := 97) hx hb dX7_complete_44 (by decide) ?_
  refine lv_icmp_eq (tgt := 53) hx hb dX7_complete_46 (by decide) (fun _ => ?_) (fun q_ => absurd ha9 q_)
  refine lv_iconst (v := 0) hx hb dX7_complete_53 (by decide) ?_
  obtain ⟨I1_, hI1_⟩ : ∃ z, z = up I [20] 23 0 := ⟨_, rfl⟩
  refine x_put (C := RX7) (T := TX7) (N := 24) (ci := 7) hx hb hts iu7 tyX7 tyX7_ok nmX7 hown hK hH hS (id := [20]) (by first | trivial | (simp only [xD]; omega) | (simp [xD]; done) | (simp [xD]; omega)) rfl rfl (by decide) 23 (by decide) (hts _ tw862) (fun _ h9 => h9) (Or.inl rfl) (ty := .int) (v := .int 0) (by decide +kernel) rfl rfl (I' := (mW I1_ c X)) (F' := (xFh h)) (fun i hi => by rw [show (mW I1_ c X) = _ from Eq.symm ((mW_u20 _ _ _ _ (by decide)).trans (congrArg (fun z => mW z c X) hI1_.symm))]; exact up_id hi) (fun _ _ => rfl) (fun j9 => by rw [show (mW I1_ c X) = _ from Eq.symm ((mW_u20 _ _ _ _ (by decide)).trans (congrArg (fun z => mW z c X) hI1_.symm)), up_row]; exact xv_upd rfl j9) dX7_complete_54 (fun H locs hH hS => ?_)
  have hsm : ∀ id, pK id = true → I1_ id = I id := by rw [hI1_]; exact pK_20 I 23 _
  have hpo1 : I1_ [24, 11] c = nI p := by rw [hI1_]; exact hpo
  have hA1 := hA.same hsm
  have hW1 := hW.same hsm
  have e1 := vP_same hsm p
  have e2 := vC_same hsm p
  rw [← mW_rem] at hH
  refine lv_aload_n hx hb dX7_complete_57 rfl (lv_at hl 0 rfl) ?_
  refine x_get (C := RX7) (T := TX7) (N := 24) (ci := 7) hx hb hts iu7 hown hK hH (id := [20]) (by first | trivial | (simp only [xD]; omega) | (simp [xD]; done) | (simp [xD]; omega)) rfl rfl (by decide) 23 (by decide) (hts _ tw862) (fun _ h9 => h9) rfl (v := .int 0) (congrArg Value.int ((mW_20 _ _ _ (by decide)).trans (by rw [hI1_]; exact up_at))) dX7_complete_58 ?_
  refine lv_if_le (tgt := 66) hx hb dX7_complete_61 (by decide) (fun _ => ?_) (fun q_ => absurd (by decide) q_)
  refine lv_aload_n hx hb dX7_complete_66 rfl (lv_at hl 0 rfl) ?_
  refine lv_iload_n hx hb dX7_complete_67 rfl (lv_at hl 1 rfl) ?_
  refine x_V0 hx hb hml hown hE hS hl.1 cyX7_keeps tw1024 (c_X7_keeps l g h I1_ n c (sRem X 8) hc4 hchr) ⟨Nat.le_of_ble_eq_true rfl, Nat.le_of_ble_eq_true rfl⟩ ⟨Nat.le_of_ble_eq_true rfl, Nat.le_of_ble_eq_true rfl⟩ (x_recv hK hH (id := [20]) (by first | trivial | (simp only [xD]; omega) | (simp [xD]; done) | (simp [xD]; omega)) (ci := 7) rfl (by decide) rfl) hH rfl rfl (Nat.le_of_ble_eq_true rfl) dX7_complete_68 (fun H locs hH hS => ?_)
  obtain ⟨I2_, hI2_⟩ : ∃ z, z = mKp I1_ (sRem X 8) 8 := ⟨_, rfl⟩
  rw [← hI2_] at hH
  have hsm2 : ∀ id, pK id = true → I2_ id = I id := fun id hi => by rw [hI2_, mKp_pK _ _ id hi]; exact hsm id hi
  have hpo2 : I2_ [24, 11] c = nI p := by rw [hI2_, mKp_ne _ _ _ (by decide)]; exact hpo1
  have hA2 := hA.same hsm2
  have hW2 := hW.same hsm2
  have e12 := vP_same hsm2 p
  have e22 := vC_same hsm2 p
  have hK2 : ∀ k, k < 8 → I2_ [24, 22] k = X 2 k := fun k hk => by rw [hI2_, mKp_at _ _ hk, sRem_2]
  refine lv_aload_n hx hb dX7_complete_71 rfl (lv_at hl 0 rfl) ?_
  refine x_get (C := RX7) (T := TX7) (N := 24) (ci := 7) hx hb hts iu7 hown hK hH (id := [20]) (by first | trivial | (simp only [xD]; omega) | (simp [xD]; done) | (simp [xD]; omega)) rfl rfl (by decide) 14 (by decide) (hts _ tw853) (fun _ h9 => h9) rfl (v := .ref (ga g [21, 14])) rfl dX7_complete_72 ?_
  refine lv_iload_n hx hb dX7_complete_75 rfl (lv_at hl 1 rfl) ?_
  refine x_aald hx hb hK hH (id := [21, 14]) (by first | trivial | (simp only [xD]; omega) | (simp [xD]; done) | (simp [xD]; omega)) 8 (L := 4) rfl (by decide) c rfl (by omega) (by decide) (v := .ref (ga g [22, 14, c])) (by show rq _ (if _ then _ else _) = _; rw [if_pos (show c < xLn 14 by show _ < 4; omega)]; rfl) dX7_complete_76 ?_
  refine lv_iload_n hx hb dX7_complete_77 rfl (lv_at hl 2 rfl) ?_
  refine lv_bipush (v := 99) hx hb dX7_complete_78 (by decide) ?_
  obtain ⟨X3_, hX3_⟩ : ∃ z, z = up2 (sRem X 8) 2 j 99 := ⟨_, rfl⟩
  refine x_cast hx hb hK hH hS (id := [22, 14, c]) (by first | trivial | (simp only [xD]; omega) | (simp [xD]; done) | (simp [xD]; omega)) (L := 8) rfl j rfl (by omega) (by decide) (by rfl) ((mW_u2 _ _ _ _ _).trans (congrArg (mW I2_ c) hX3_.symm)) dX7_complete_80 (fun H locs hH hS => ?_)
  subst hX3_
  refine lv_aload_n hx hb dX7_complete_81 rfl (lv_at hl 0 rfl) ?_
  refine lv_iload_n hx hb dX7_complete_82 rfl (lv_at hl 1 rfl) ?_
  refine x_V0 hx hb hml hown hE hS hl.1 cyX7_goes tw984 (c_X7_goes l g h I2_ n c (up2 (sRem X 8) 2 j 99) hc4 p hpp hpo2 hA2 hW2) ⟨Nat.le_of_ble_eq_true rfl, Nat.le_of_ble_eq_true rfl⟩ ⟨Nat.le_of_ble_eq_true rfl, Nat.le_of_ble_eq_true rfl⟩ (x_recv hK hH (id := [20]) (by first | trivial | (simp only [xD]; omega) | (simp [xD]; done) | (simp [xD]; omega)) (ci := 7) rfl (by decide) rfl) hH rfl rfl (Nat.le_of_ble_eq_true rfl) dX7_complete_83 (fun H locs hH hS => ?_)
  rw [e12, e22] at hH
  refine lv_aload_n hx hb dX7_complete_86 rfl (lv_at hl 0 rfl) ?_
  refine lv_iload_n hx hb dX7_complete_87 rfl (lv_at hl 1 rfl) ?_
  refine lv_iload_n hx hb dX7_complete_88 rfl (lv_at hl 2 rfl) ?_
  refine x_V1 hx hb hml hown hE hS hl.1 cyX7_changed tw1028 (c_X7_changed l g h I2_ n c (sTail (vP I p) (vC I p) (sCn h p) (sSz h p) (up2 (sRem X 8) 2 j 99)) hc4 p hpp hpo2 hA2 hW2 (nI j) (fun k hk => by rw [hK2 k hk, sTail_3, up2_f _ _ _ (by decide)]; exact (if_pos ⟨rfl, hk⟩).symm)) ⟨Nat.le_of_ble_eq_true rfl, Nat.le_of_ble_eq_true rfl⟩ ⟨Nat.le_of_ble_eq_true rfl, Nat.le_of_ble_eq_true rfl⟩ (x_recv hK hH (id := [20]) (by first | trivial | (simp only [xD]; omega) | (simp [xD]; done) | (simp [xD]; omega)) (ci := 7) rfl (by decide) rfl) hH rfl rfl (Nat.le_of_ble_eq_true rfl) dX7_complete_89 (fun H locs hH hS => ?_)
  exact x_iret hx hb hr hlocks hS dX7_complete_92 rfl (by rw [hI2_, hI1_] at hH; exact hH)

set_option maxHeartbeats 1000000 in
set_option maxRecDepth 100000 in
theorem c_X7_move_c (l : Launch) (g : xG) (h : xS) (I : xI) (n : Nat) (m : Nat) (hm4 : m ≤ 4) (hm : I [20] 20 = nI m) (x y : Int32) (hxb : sIn x 0 (nI m) = false)  : xM l yX7_move (xws yX7_move cX7_move 4 (some FieldType.int)) 3 55 g [.ref (ga g [20]), .int x, .int y] (xR g (xD h) I (xFh h) n) (some (.int 0)) (xR g (xD h) (up I [20] 23 1) (xFh h) n) 0 0 := by
  refine xM.of (by decide) (Nat.le_of_ble_eq_true rfl) ?_
  intro P_ e_ s m_ bl_ mt_ cd_ ls hx hb hr hown hlocks hml hnm hE hK hts hH hS hl
  have hl : lv_has ls 4 [(0, .ref (ga g [20])), (1, .int x), (2, .int y)] := hl
  refine lv_aload_n hx hb dX7_move_0 rfl (lv_at hl 0 rfl) ?_
  refine lv_aload_n hx hb dX7_move_1 rfl (lv_at hl 0 rfl) ?_
  refine lv_iload_n hx hb dX7_move_2 rfl (lv_at hl 1 rfl) ?_
  refine x_V1 hx hb hml hown hE hS hl.1 cyX7_isCase tw1016 (c_X7_isCase l g h I n x m (by omega) hm) ⟨Nat.le_of_ble_eq_true rfl, Nat.le_of_ble_eq_true rfl⟩ ⟨Nat.le_of_ble_eq_true rfl, Nat.le_of_ble_eq_true rfl⟩ (x_recv hK hH (id := [20]) (by first | trivial | (simp only [xD]; omega) | (simp [xD]; done) | (simp [xD]; omega)) (ci := 7) rfl (by decide) rfl) hH rfl rfl (Nat.le_of_ble_eq_true rfl) dX7_move_3 (fun H locs hH hS => ?_)
  refine lv_if_eq (tgt := 17) hx hb dX7_move_6 (by decide) (fun _ => ?_) (fun q_ => absurd ((b01_eq0 _).mpr hxb) q_)
  refine lv_iconst (v := 1) hx hb dX7_move_17 (by decide) ?_
  refine lv_goto (tgt := 46) hx hb dX7_move_18 (by decide) ?_
  obtain ⟨I1_, hI1_⟩ : ∃ z, z = up I [20] 23 1 := ⟨_, rfl⟩
  refine x_put (C := RX7) (T := TX7) (N := 24) (ci := 7) hx hb hts iu7 tyX7 tyX7_ok nmX7 hown hK hH hS (id := [20]) (by first | trivial | (simp only [xD]; omega) | (simp [xD]; done) | (simp [xD]; omega)) rfl rfl (by decide) 23 (by decide) (hts _ tw862) (fun _ h9 => h9) (Or.inl rfl) (ty := .int) (v := .int 1) (by decide +kernel) rfl rfl (I' := I1_) (F' := (xFh h)) (fun i hi => by rw [hI1_]; exact up_id hi) (fun _ _ => rfl) (fun j9 => by rw [hI1_, up_row]; exact xv_upd (ci := 7) (k := 23) rfl j9) dX7_move_46 (fun H locs hH hS => ?_)
  refine lv_aload_n hx hb dX7_move_49 rfl (lv_at hl 0 rfl) ?_
  refine x_get (C := RX7) (T := TX7) (N := 24) (ci := 7) hx hb hts iu7 hown hK hH (id := [20]) (by first | trivial | (simp only [xD]; omega) | (simp [xD]; done) | (simp [xD]; omega)) rfl rfl (by decide) 23 (by decide) (hts _ tw862) (fun _ h9 => h9) rfl (v := .int 1) (congrArg Value.int (by rw [hI1_]; exact up_at)) dX7_move_50 ?_
  refine lv_if_le (tgt := 58) hx hb dX7_move_53 (by decide) (fun q_ => absurd q_ (by decide)) (fun _ => ?_)
  refine lv_iconst (v := 0) hx hb dX7_move_56 (by decide) ?_
  exact x_iret hx hb hr hlocks hS dX7_move_57 rfl (by rw [hI1_] at hH; exact hH)

set_option maxHeartbeats 1000000 in
set_option maxRecDepth 100000 in
theorem c_X7_move_p (l : Launch) (g : xG) (h : xS) (I : xI) (n : Nat) (q : Nat) (hq : q ≤ 3) (hz : I [20] 10 = nI q) (m : Nat) (hm4 : m ≤ 4) (hm : I [20] 20 = nI m) (c : Nat) (hc : c < m) (y : Int32) (hy : sIn y 0 (nI q) = false)  : xM l yX7_move (xws yX7_move cX7_move 4 (some FieldType.int)) 3 55 g [.ref (ga g [20]), .int (nI c), .int y] (xR g (xD h) I (xFh h) n) (some (.int 0)) (xR g (xD h) (up I [20] 23 1) (xFh h) n) 0 0 := by
  refine xM.of (by decide) (Nat.le_of_ble_eq_true rfl) ?_
  intro P_ e_ s m_ bl_ mt_ cd_ ls hx hb hr hown hlocks hml hnm hE hK hts hH hS hl
  have hl : lv_has ls 4 [(0, .ref (ga g [20])), (1, .int (nI c)), (2, .int y)] := hl
  refine lv_aload_n hx hb dX7_move_0 rfl (lv_at hl 0 rfl) ?_
  refine lv_aload_n hx hb dX7_move_1 rfl (lv_at hl 0 rfl) ?_
  refine lv_iload_n hx hb dX7_move_2 rfl (lv_at hl 1 rfl) ?_
  refine x_V1 hx hb hml hown hE hS hl.1 cyX7_isCase tw1016 (c_X7_isCase l g h I n ((nI c)) m (by omega) hm) ⟨Nat.le_of_ble_eq_true rfl, Nat.le_of_ble_eq_true rfl⟩ ⟨Nat.le_of_ble_eq_true rfl, Nat.le_of_ble_eq_true rfl⟩ (x_recv hK hH (id := [20]) (by first | trivial | (simp only [xD]; omega) | (simp [xD]; done) | (simp [xD]; omega)) (ci := 7) rfl (by decide) rfl) hH rfl rfl (Nat.le_of_ble_eq_true rfl) dX7_move_3 (fun H locs hH hS => ?_)
  refine lv_if_eq (tgt := 17) hx hb dX7_move_6 (by decide) (fun q_ => absurd q_ (fun z_ => by rw [sIn_nI hc (by omega)] at z_; exact absurd z_ (by decide))) (fun _ => ?_)
  refine lv_aload_n hx hb dX7_move_9 rfl (lv_at hl 0 rfl) ?_
  refine lv_iload_n hx hb dX7_move_10 rfl (lv_at hl 2 rfl) ?_
  refine x_V1 hx hb hml hown hE hS hl.1 cyX7_isPlan tw929 (c_X7_isPlan l g h I n y q (by omega) hz) ⟨Nat.le_of_ble_eq_true rfl, Nat.le_of_ble_eq_true rfl⟩ ⟨Nat.le_of_ble_eq_true rfl, Nat.le_of_ble_eq_true rfl⟩ (x_recv hK hH (id := [20]) (by first | trivial | (simp only [xD]; omega) | (simp [xD]; done) | (simp [xD]; omega)) (ci := 7) rfl (by decide) rfl) hH rfl rfl (Nat.le_of_ble_eq_true rfl) dX7_move_11 (fun H locs hH hS => ?_)
  refine lv_if_ne (tgt := 21) hx hb dX7_move_14 (by decide) (fun q_ => absurd q_ (fun z_ => z_ ((b01_eq0 _).mpr hy))) (fun _ => ?_)
  refine lv_iconst (v := 1) hx hb dX7_move_17 (by decide) ?_
  refine lv_goto (tgt := 46) hx hb dX7_move_18 (by decide) ?_
  obtain ⟨I1_, hI1_⟩ : ∃ z, z = up I [20] 23 1 := ⟨_, rfl⟩
  refine x_put (C := RX7) (T := TX7) (N := 24) (ci := 7) hx hb hts iu7 tyX7 tyX7_ok nmX7 hown hK hH hS (id := [20]) (by first | trivial | (simp only [xD]; omega) | (simp [xD]; done) | (simp [xD]; omega)) rfl rfl (by decide) 23 (by decide) (hts _ tw862) (fun _ h9 => h9) (Or.inl rfl) (ty := .int) (v := .int 1) (by decide +kernel) rfl rfl (I' := I1_) (F' := (xFh h)) (fun i hi => by rw [hI1_]; exact up_id hi) (fun _ _ => rfl) (fun j9 => by rw [hI1_, up_row]; exact xv_upd (ci := 7) (k := 23) rfl j9) dX7_move_46 (fun H locs hH hS => ?_)
  refine lv_aload_n hx hb dX7_move_49 rfl (lv_at hl 0 rfl) ?_
  refine x_get (C := RX7) (T := TX7) (N := 24) (ci := 7) hx hb hts iu7 hown hK hH (id := [20]) (by first | trivial | (simp only [xD]; omega) | (simp [xD]; done) | (simp [xD]; omega)) rfl rfl (by decide) 23 (by decide) (hts _ tw862) (fun _ h9 => h9) rfl (v := .int 1) (congrArg Value.int (by rw [hI1_]; exact up_at)) dX7_move_50 ?_
  refine lv_if_le (tgt := 58) hx hb dX7_move_53 (by decide) (fun q_ => absurd q_ (by decide)) (fun _ => ?_)
  refine lv_iconst (v := 0) hx hb dX7_move_56 (by decide) ?_
  exact x_iret hx hb hr hlocks hS dX7_move_57 rfl (by rw [hI1_] at hH; exact hH)

set_option maxHeartbeats 1000000 in
set_option maxRecDepth 100000 in
theorem c_X7_move_f (l : Launch) (g : xG) (h : xS) (I : xI) (n : Nat) (q : Nat) (hq : q ≤ 3) (hz : I [20] 10 = nI q) (p : Nat) (hp : p < q) (k : Nat) (hk : k ≤ 8) (hs : I [24, 8] p = nI k) (m : Nat) (hm4 : m ≤ 4) (hm : I [20] 20 = nI m) (c : Nat) (hc : c < m) (hpo : I [24, 11] c = nI p) (r : Nat) (hrq : r < q) (k2 : Nat) (hk2 : k2 ≤ 8) (hs2 : I [24, 8] r = nI k2) (hlt : k2 < k)  : xM l yX7_move (xws yX7_move cX7_move 4 (some FieldType.int)) 3 55 g [.ref (ga g [20]), .int (nI c), .int (nI r)] (xR g (xD h) I (xFh h) n) (some (.int 0)) (xR g (xD h) (up I [20] 23 2) (xFh h) n) 0 0 := by
  refine xM.of (by decide) (Nat.le_of_ble_eq_true rfl) ?_
  intro P_ e_ s m_ bl_ mt_ cd_ ls hx hb hr hown hlocks hml hnm hE hK hts hH hS hl
  have hl : lv_has ls 4 [(0, .ref (ga g [20])), (1, .int (nI c)), (2, .int (nI r))] := hl
  refine lv_aload_n hx hb dX7_move_0 rfl (lv_at hl 0 rfl) ?_
  refine lv_aload_n hx hb dX7_move_1 rfl (lv_at hl 0 rfl) ?_
  refine lv_iload_n hx hb dX7_move_2 rfl (lv_at hl 1 rfl) ?_
  refine x_V1 hx hb hml hown hE hS hl.1 cyX7_isCase tw1016 (c_X7_isCase l g h I n ((nI c)) m (by omega) hm) ⟨Nat.le_of_ble_eq_true rfl, Nat.le_of_ble_eq_true rfl⟩ ⟨Nat.le_of_ble_eq_true rfl, Nat.le_of_ble_eq_true rfl⟩ (x_recv hK hH (id := [20]) (by first | trivial | (simp only [xD]; omega) | (simp [xD]; done) | (simp [xD]; omega)) (ci := 7) rfl (by decide) rfl) hH rfl rfl (Nat.le_of_ble_eq_true rfl) dX7_move_3 (fun H locs hH hS => ?_)
  refine lv_if_eq (tgt := 17) hx hb dX7_move_6 (by decide) (fun q_ => absurd q_ (fun z_ => by rw [sIn_nI hc (by omega)] at z_; exact absurd z_ (by decide))) (fun _ => ?_)
  refine lv_aload_n hx hb dX7_move_9 rfl (lv_at hl 0 rfl) ?_
  refine lv_iload_n hx hb dX7_move_10 rfl (lv_at hl 2 rfl) ?_
  refine x_V1 hx hb hml hown hE hS hl.1 cyX7_isPlan tw929 (c_X7_isPlan l g h I n ((nI r)) q (by omega) hz) ⟨Nat.le_of_ble_eq_true rfl, Nat.le_of_ble_eq_true rfl⟩ ⟨Nat.le_of_ble_eq_true rfl, Nat.le_of_ble_eq_true rfl⟩ (x_recv hK hH (id := [20]) (by first | trivial | (simp only [xD]; omega) | (simp [xD]; done) | (simp [xD]; omega)) (ci := 7) rfl (by decide) rfl) hH rfl rfl (Nat.le_of_ble_eq_true rfl) dX7_move_11 (fun H locs hH hS => ?_)
  refine lv_if_ne (tgt := 21) hx hb dX7_move_14 (by decide) (fun _ => ?_) (fun q_ => absurd q_ (fun z_ => by rw [sIn_nI hrq (by omega)] at z_; exact absurd z_ (by decide)))
  refine lv_aload_n hx hb dX7_move_21 rfl (lv_at hl 0 rfl) ?_
  refine x_get (C := RX7) (T := TX7) (N := 24) (ci := 7) hx hb hts iu7 hown hK hH (id := [20]) (by first | trivial | (simp only [xD]; omega) | (simp [xD]; done) | (simp [xD]; omega)) rfl rfl (by decide) 8 (by decide) (hts _ tw847) (fun _ h9 => h9) rfl (v := .ref (ga g [24, 8])) rfl dX7_move_22 ?_
  refine lv_iload_n hx hb dX7_move_25 rfl (lv_at hl 2 rfl) ?_
  refine x_iald hx hb hK hH (id := [24, 8]) (by first | trivial | (simp only [xD]; omega) | (simp [xD]; done) | (simp [xD]; omega)) (L := 3) rfl rfl r rfl (by omega) (by decide) dX7_move_26 ?_
  rw [show (I [24, 8] r) = (nI k2) from (hs2)]
  refine lv_aload_n hx hb dX7_move_27 rfl (lv_at hl 0 rfl) ?_
  refine x_get (C := RX7) (T := TX7) (N := 24) (ci := 7) hx hb hts iu7 hown hK hH (id := [20]) (by first | trivial | (simp only [xD]; omega) | (simp [xD]; done) | (simp [xD]; omega)) rfl rfl (by decide) 8 (by decide) (hts _ tw847) (fun _ h9 => h9) rfl (v := .ref (ga g [24, 8])) rfl dX7_move_28 ?_
  refine lv_aload_n hx hb dX7_move_31 rfl (lv_at hl 0 rfl) ?_
  refine x_get (C := RX7) (T := TX7) (N := 24) (ci := 7) hx hb hts iu7 hown hK hH (id := [20]) (by first | trivial | (simp only [xD]; omega) | (simp [xD]; done) | (simp [xD]; omega)) rfl rfl (by decide) 11 (by decide) (hts _ tw850) (fun _ h9 => h9) rfl (v := .ref (ga g [24, 11])) rfl dX7_move_32 ?_
  refine lv_iload_n hx hb dX7_move_35 rfl (lv_at hl 1 rfl) ?_
  refine x_iald hx hb hK hH (id := [24, 11]) (by first | trivial | (simp only [xD]; omega) | (simp [xD]; done) | (simp [xD]; omega)) (L := 4) rfl rfl c rfl (by omega) (by decide) dX7_move_36 ?_
  rw [show (I [24, 11] c) = (nI p) from (hpo)]
  refine x_iald hx hb hK hH (id := [24, 8]) (by first | trivial | (simp only [xD]; omega) | (simp [xD]; done) | (simp [xD]; omega)) (L := 3) rfl rfl p rfl (by omega) (by decide) dX7_move_37 ?_
  rw [show (I [24, 8] p) = (nI k) from (hs)]
  refine lv_icmp_ge (tgt := 45) hx hb dX7_move_38 (by decide) (fun q_ => absurd q_ (fun z_ => absurd ((nI_leI (a := k) (b := k2) (by omega) (by omega)).mp z_) (by omega))) (fun _ => ?_)
  refine lv_iconst (v := 2) hx hb dX7_move_41 (by decide) ?_
  refine lv_goto (tgt := 46) hx hb dX7_move_42 (by decide) ?_
  obtain ⟨I1_, hI1_⟩ : ∃ z, z = up I [20] 23 2 := ⟨_, rfl⟩
  refine x_put (C := RX7) (T := TX7) (N := 24) (ci := 7) hx hb hts iu7 tyX7 tyX7_ok nmX7 hown hK hH hS (id := [20]) (by first | trivial | (simp only [xD]; omega) | (simp [xD]; done) | (simp [xD]; omega)) rfl rfl (by decide) 23 (by decide) (hts _ tw862) (fun _ h9 => h9) (Or.inl rfl) (ty := .int) (v := .int 2) (by decide +kernel) rfl rfl (I' := I1_) (F' := (xFh h)) (fun i hi => by rw [hI1_]; exact up_id hi) (fun _ _ => rfl) (fun j9 => by rw [hI1_, up_row]; exact xv_upd (ci := 7) (k := 23) rfl j9) dX7_move_46 (fun H locs hH hS => ?_)
  refine lv_aload_n hx hb dX7_move_49 rfl (lv_at hl 0 rfl) ?_
  refine x_get (C := RX7) (T := TX7) (N := 24) (ci := 7) hx hb hts iu7 hown hK hH (id := [20]) (by first | trivial | (simp only [xD]; omega) | (simp [xD]; done) | (simp [xD]; omega)) rfl rfl (by decide) 23 (by decide) (hts _ tw862) (fun _ h9 => h9) rfl (v := .int 2) (congrArg Value.int (by rw [hI1_]; exact up_at)) dX7_move_50 ?_
  refine lv_if_le (tgt := 58) hx hb dX7_move_53 (by decide) (fun q_ => absurd q_ (by decide)) (fun _ => ?_)
  refine lv_iconst (v := 0) hx hb dX7_move_56 (by decide) ?_
  exact x_iret hx hb hr hlocks hS dX7_move_57 rfl (by rw [hI1_] at hH; exact hH)

set_option maxHeartbeats 1000000 in
set_option maxRecDepth 100000 in
theorem c_X7_move (l : Launch) (g : xG) (h : xS) (I : xI) (n : Nat) (c : Nat) (X : xX) (m : Nat) (hm4 : m ≤ 4) (hm : I [20] 20 = nI m) (hc : c < m) (p : Nat) (hpp : p < 3) (hpo : I [24, 11] c = nI p) (hA : mA h I p) (hW : xWp h I p) (q : Nat) (hq : q ≤ 3) (hz : I [20] 10 = nI q) (hp : p < q) (r : Nat) (hrq : r < q) (hA2 : mA h I r) (hW2 : xWp h I r) (hle : sSz h p ≤ sSz h r)  : xM l yX7_move (xws yX7_move cX7_move 4 (some FieldType.int)) 19 437 g [.ref (ga g [20]), .int (nI c), .int (nI r)] (xR g (xD h) (mW I c X) (xFh h) n) (some (.int (nI p))) (xR g (xD h) (mW (up (up (up I [20] 23 0) [24, 11] c (nI r)) [24, 9] r 1) c (sTail (vP I r) (vC I r) (sCn h r) (sSz h r) X)) (xFh h) n) 0 0 := by
  refine xM.of (by decide) (Nat.le_of_ble_eq_true rfl) ?_
  intro P_ e_ s m_ bl_ mt_ cd_ ls hx hb hr hown hlocks hml hnm hE hK hts hH hS hl
  have hl : lv_has ls 4 [(0, .ref (ga g [20])), (1, .int (nI c)), (2, .int (nI r))] := hl
  have h8 := hW.1
  have hc4 : c < 4 := by omega
  have h82 := hW2.1
  refine lv_aload_n hx hb dX7_move_0 rfl (lv_at hl 0 rfl) ?_
  refine lv_aload_n hx hb dX7_move_1 rfl (lv_at hl 0 rfl) ?_
  refine lv_iload_n hx hb dX7_move_2 rfl (lv_at hl 1 rfl) ?_
  refine x_V1 hx hb hml hown hE hS hl.1 cyX7_isCase tw1016 (c_X7_isCase l g h (mW I c X) n (nI c) m (by omega) (by rw [mW_20 _ _ _ (by decide)]; exact hm)) ⟨Nat.le_of_ble_eq_true rfl, Nat.le_of_ble_eq_true rfl⟩ ⟨Nat.le_of_ble_eq_true rfl, Nat.le_of_ble_eq_true rfl⟩ (x_recv hK hH (id := [20]) (by first | trivial | (simp only [xD]; omega) | (simp [xD]; done) | (simp [xD]; omega)) (ci := 7) rfl (by decide) rfl) hH rfl rfl (Nat.le_of_ble_eq_true rfl) dX7_move_3 (fun H locs hH hS => ?_)
  refine lv_if_eq (tgt := 17) hx hb dX7_move_6 (by decide) (fun q_ => absurd q_ (fun z_ => by rw [sIn_nI hc (by omega)] at z_; exact absurd z_ (by decide))) (fun _ => ?_)
  refine lv_aload_n hx hb dX7_move_9 rfl (lv_at hl 0 rfl) ?_
  refine lv_iload_n hx hb dX7_move_10 rfl (lv_at hl 2 rfl) ?_
  refine x_V1 hx hb hml hown hE hS hl.1 cyX7_isPlan tw929 (c_X7_isPlan l g h (mW I c X) n (nI r) q (by omega) (by rw [mW_20 _ _ _ (by decide)]; exact hz)) ⟨Nat.le_of_ble_eq_true rfl, Nat.le_of_ble_eq_true rfl⟩ ⟨Nat.le_of_ble_eq_true rfl, Nat.le_of_ble_eq_true rfl⟩ (x_recv hK hH (id := [20]) (by first | trivial | (simp only [xD]; omega) | (simp [xD]; done) | (simp [xD]; omega)) (ci := 7) rfl (by decide) rfl) hH rfl rfl (Nat.le_of_ble_eq_true rfl) dX7_move_11 (fun H locs hH hS => ?_)
  refine lv_if_ne (tgt := 21) hx hb dX7_move_14 (by decide) (fun _ => ?_) (fun q_ => absurd q_ (fun z_ => by rw [sIn_nI hrq (by omega)] at z_; exact absurd z_ (by decide)))
  refine lv_aload_n hx hb dX7_move_21 rfl (lv_at hl 0 rfl) ?_
  refine x_get (C := RX7) (T := TX7) (N := 24) (ci := 7) hx hb hts iu7 hown hK hH (id := [20]) (by first | trivial | (simp only [xD]; omega) | (simp [xD]; done) | (simp [xD]; omega)) rfl rfl (by decide) 8 (by decide) (hts _ tw847) (fun _ h9 => h9) rfl (v := .ref (ga g [24, 8])) rfl dX7_move_22 ?_
  refine lv_iload_n hx hb dX7_move_25 rfl (lv_at hl 2 rfl) ?_
  refine x_iald hx hb hK hH (id := [24, 8]) (by first | trivial | (simp only [xD]; omega) | (simp [xD]; done) | (simp [xD]; omega)) (L := 3) rfl (r := (I [24, 8])) rfl r rfl (by omega) (by decide) dX7_move_26 ?_
  rw [show (I [24, 8] r) = (nI (sSz h r)) from hA2.1]
  refine lv_aload_n hx hb dX7_move_27 rfl (lv_at hl 0 rfl) ?_
  refine x_get (C := RX7) (T := TX7) (N := 24) (ci := 7) hx hb hts iu7 hown hK hH (id := [20]) (by first | trivial | (simp only [xD]; omega) | (simp [xD]; done) | (simp [xD]; omega)) rfl rfl (by decide) 8 (by decide) (hts _ tw847) (fun _ h9 => h9) rfl (v := .ref (ga g [24, 8])) rfl dX7_move_28 ?_
  refine lv_aload_n hx hb dX7_move_31 rfl (lv_at hl 0 rfl) ?_
  refine x_get (C := RX7) (T := TX7) (N := 24) (ci := 7) hx hb hts iu7 hown hK hH (id := [20]) (by first | trivial | (simp only [xD]; omega) | (simp [xD]; done) | (simp [xD]; omega)) rfl rfl (by decide) 11 (by decide) (hts _ tw850) (fun _ h9 => h9) rfl (v := .ref (ga g [24, 11])) rfl dX7_move_32 ?_
  refine lv_iload_n hx hb dX7_move_35 rfl (lv_at hl 1 rfl) ?_
  refine x_iald hx hb hK hH (id := [24, 11]) (by first | trivial | (simp only [xD]; omega) | (simp [xD]; done) | (simp [xD]; omega)) (L := 4) rfl (r := (I [24, 11])) rfl c rfl (by omega) (by decide) dX7_move_36 ?_
  rw [show (I [24, 11] c) = (nI p) from hpo]
  refine x_iald hx hb hK hH (id := [24, 8]) (by first | trivial | (simp only [xD]; omega) | (simp [xD]; done) | (simp [xD]; omega)) (L := 3) rfl (r := (I [24, 8])) rfl p rfl (by omega) (by decide) dX7_move_37 ?_
  rw [show (I [24, 8] p) = (nI (sSz h p)) from hA.1]
  refine lv_icmp_ge (tgt := 45) hx hb dX7_move_38 (by decide) (fun _ => ?_) (fun q_ => absurd ((nI_leI (a := sSz h p) (b := sSz h r) (by omega) (by omega)).mpr hle) q_)
  refine lv_iconst (v := 0) hx hb dX7_move_45 (by decide) ?_
  obtain ⟨I1_, hI1_⟩ : ∃ z, z = up I [20] 23 0 := ⟨_, rfl⟩
  refine x_put (C := RX7) (T := TX7) (N := 24) (ci := 7) hx hb hts iu7 tyX7 tyX7_ok nmX7 hown hK hH hS (id := [20]) (by first | trivial | (simp only [xD]; omega) | (simp [xD]; done) | (simp [xD]; omega)) rfl rfl (by decide) 23 (by decide) (hts _ tw862) (fun _ h9 => h9) (Or.inl rfl) (ty := .int) (v := .int 0) (by decide +kernel) rfl rfl (I' := (mW I1_ c X)) (F' := (xFh h)) (fun i hi => by rw [show (mW I1_ c X) = _ from Eq.symm ((mW_u20 _ _ _ _ (by decide)).trans (congrArg (fun z => mW z c X) hI1_.symm))]; exact up_id hi) (fun _ _ => rfl) (fun j9 => by rw [show (mW I1_ c X) = _ from Eq.symm ((mW_u20 _ _ _ _ (by decide)).trans (congrArg (fun z => mW z c X) hI1_.symm)), up_row]; exact xv_upd rfl j9) dX7_move_46 (fun H locs hH hS => ?_)
  refine lv_aload_n hx hb dX7_move_49 rfl (lv_at hl 0 rfl) ?_
  refine x_get (C := RX7) (T := TX7) (N := 24) (ci := 7) hx hb hts iu7 hown hK hH (id := [20]) (by first | trivial | (simp only [xD]; omega) | (simp [xD]; done) | (simp [xD]; omega)) rfl rfl (by decide) 23 (by decide) (hts _ tw862) (fun _ h9 => h9) rfl (v := .int 0) (congrArg Value.int ((mW_20 _ _ _ (by decide)).trans (by rw [hI1_]; exact up_at))) dX7_move_50 ?_
  refine lv_if_le (tgt := 58) hx hb dX7_move_53 (by decide) (fun _ => ?_) (fun q_ => absurd (by decide) q_)
  refine lv_aload_n hx hb dX7_move_58 rfl (lv_at hl 0 rfl) ?_
  refine x_get (C := RX7) (T := TX7) (N := 24) (ci := 7) hx hb hts iu7 hown hK hH (id := [20]) (by first | trivial | (simp only [xD]; omega) | (simp [xD]; done) | (simp [xD]; omega)) rfl rfl (by decide) 11 (by decide) (hts _ tw850) (fun _ h9 => h9) rfl (v := .ref (ga g [24, 11])) rfl dX7_move_59 ?_
  refine lv_iload_n hx hb dX7_move_62 rfl (lv_at hl 1 rfl) ?_
  refine x_iald hx hb hK hH (id := [24, 11]) (by first | trivial | (simp only [xD]; omega) | (simp [xD]; done) | (simp [xD]; omega)) (L := 4) rfl (r := (I1_ [24, 11])) rfl c rfl (by omega) (by decide) dX7_move_63 ?_
  rw [show (I1_ [24, 11] c) = (nI p) from (by rw [hI1_, up_id (by decide)]; exact hpo)]
  refine lv_istore_n (lv' := [(3, .int (nI p)), (0, .ref (ga g [20])), (1, .int (nI c)), (2, .int (nI r))]) hx hb dX7_move_64 rfl hl (by decide) rfl (fun ls hl => ?_)
  refine lv_aload_n hx hb dX7_move_65 rfl (lv_at hl 1 rfl) ?_
  refine x_get (C := RX7) (T := TX7) (N := 24) (ci := 7) hx hb hts iu7 hown hK hH (id := [20]) (by first | trivial | (simp only [xD]; omega) | (simp [xD]; done) | (simp [xD]; omega)) rfl rfl (by decide) 11 (by decide) (hts _ tw850) (fun _ h9 => h9) rfl (v := .ref (ga g [24, 11])) rfl dX7_move_66 ?_
  refine lv_iload_n hx hb dX7_move_69 rfl (lv_at hl 2 rfl) ?_
  refine lv_iload_n hx hb dX7_move_70 rfl (lv_at hl 3 rfl) ?_
  obtain ⟨I2_, hI2_⟩ : ∃ z, z = up I1_ [24, 11] c (nI r) := ⟨_, rfl⟩
  refine x_iast hx hb hK hH hS (id := [24, 11]) (by first | trivial | (simp only [xD]; omega) | (simp [xD]; done) | (simp [xD]; omega)) (L := 4) rfl c rfl (by omega) (by decide) ((mW_uJ I1_ c X [24, 11] c (nI r) rfl).trans (congrArg (fun z => mW z c X) hI2_.symm)) dX7_move_71 (fun H locs hH hS => ?_)
  refine lv_aload_n hx hb dX7_move_72 rfl (lv_at hl 1 rfl) ?_
  refine x_get (C := RX7) (T := TX7) (N := 24) (ci := 7) hx hb hts iu7 hown hK hH (id := [20]) (by first | trivial | (simp only [xD]; omega) | (simp [xD]; done) | (simp [xD]; omega)) rfl rfl (by decide) 9 (by decide) (hts _ tw848) (fun _ h9 => h9) rfl (v := .ref (ga g [24, 9])) rfl dX7_move_73 ?_
  refine lv_iload_n hx hb dX7_move_76 rfl (lv_at hl 3 rfl) ?_
  refine lv_iconst (v := 1) hx hb dX7_move_77 (by decide) ?_
  obtain ⟨I3_, hI3_⟩ : ∃ z, z = up I2_ [24, 9] r 1 := ⟨_, rfl⟩
  refine x_bast hx hb hK hH hS (id := [24, 9]) (by first | trivial | (simp only [xD]; omega) | (simp [xD]; done) | (simp [xD]; omega)) (L := 3) rfl r rfl (by omega) (by decide) rfl ((mW_uJ I2_ c X [24, 9] r 1 rfl).trans (congrArg (fun z => mW z c X) hI3_.symm)) dX7_move_78 (fun H locs hH hS => ?_)
  have hsm : ∀ id, pK id = true → I3_ id = I id := fun id hi => by rw [hI3_, up_id (fun e => by subst e; cases hi), hI2_, up_id (fun e => by subst e; cases hi), hI1_, up_id (fun e => by subst e; cases hi)]
  have hpo1 : I3_ [24, 11] c = nI r := by rw [hI3_, up_id (by decide), hI2_]; exact up_at
  have hA1 := hA2.same hsm
  have hW1 := hW2.same hsm
  have e1 := vP_same hsm r
  have e2 := vC_same hsm r
  refine lv_aload_n hx hb dX7_move_79 rfl (lv_at hl 1 rfl) ?_
  refine lv_iload_n hx hb dX7_move_80 rfl (lv_at hl 2 rfl) ?_
  refine x_V0 hx hb hml hown hE hS hl.1 cyX7_goes tw984 (c_X7_goes l g h I3_ n c X hc4 r (by omega) hpo1 hA1 hW1) ⟨Nat.le_of_ble_eq_true rfl, Nat.le_of_ble_eq_true rfl⟩ ⟨Nat.le_of_ble_eq_true rfl, Nat.le_of_ble_eq_true rfl⟩ (x_recv hK hH (id := [20]) (by first | trivial | (simp only [xD]; omega) | (simp [xD]; done) | (simp [xD]; omega)) (ci := 7) rfl (by decide) rfl) hH rfl rfl (Nat.le_of_ble_eq_true rfl) dX7_move_81 (fun H locs hH hS => ?_)
  rw [e1, e2] at hH
  refine lv_iload_n hx hb dX7_move_84 rfl (lv_at hl 0 rfl) ?_
  exact x_iret hx hb hr hlocks hS dX7_move_85 rfl (by rw [hI3_, hI2_, hI1_] at hH; exact hH)

def mNw (X : xX) (i : Nat) : xX := fun f k => if f = 2 ∧ k < i then 105 else X f k
theorem mNw_0 (X : xX) : mNw X 0 = X := by funext f k; exact if_neg (fun z => by omega)
theorem mNw_s (X : xX) (i : Nat) : up2 (mNw X i) 2 i 105 = mNw X (i + 1) := by
  funext f k
  unfold up2 mNw
  by_cases a : f = 2
  · subst a
    by_cases b : k = i
    · subst b; rw [if_pos ⟨rfl, rfl⟩, if_pos ⟨rfl, by omega⟩]
    · rw [if_neg (fun z => b z.2)]
      by_cases d : k < i
      · rw [if_pos ⟨rfl, d⟩, if_pos ⟨rfl, by omega⟩]
      · rw [if_neg (fun z => d z.2), if_neg (fun z => by omega)]
  · rw [if_neg (fun z => a z.1), if_neg (fun z => a z.1), if_neg (fun z => a z.1)]
set_option maxHeartbeats 1000000 in
set_option maxRecDepth 100000 in
theorem c_X7_begin_p (l : Launch) (g : xG) (h : xS) (I : xI) (n : Nat) (q : Nat) (hq : q ≤ 3) (hz : I [20] 10 = nI q) (x : Int32) (hxb : sIn x 0 (nI q) = false)  : xM l yX7_begin (xws yX7_begin cX7_begin 4 (some FieldType.int)) 3 55 g [.ref (ga g [20]), .int x] (xR g (xD h) I (xFh h) n) (some (.int 0)) (xR g (xD h) (up I [20] 23 1) (xFh h) n) 0 0 := by
  refine xM.of (by decide) (Nat.le_of_ble_eq_true rfl) ?_
  intro P_ e_ s m_ bl_ mt_ cd_ ls hx hb hr hown hlocks hml hnm hE hK hts hH hS hl
  have hl : lv_has ls 4 [(0, .ref (ga g [20])), (1, .int x)] := hl
  refine lv_aload_n hx hb dX7_begin_0 rfl (lv_at hl 0 rfl) ?_
  refine lv_aload_n hx hb dX7_begin_1 rfl (lv_at hl 0 rfl) ?_
  refine lv_iload_n hx hb dX7_begin_2 rfl (lv_at hl 1 rfl) ?_
  refine x_V1 hx hb hml hown hE hS hl.1 cyX7_isPlan tw929 (c_X7_isPlan l g h I n x q (by omega) hz) ⟨Nat.le_of_ble_eq_true rfl, Nat.le_of_ble_eq_true rfl⟩ ⟨Nat.le_of_ble_eq_true rfl, Nat.le_of_ble_eq_true rfl⟩ (x_recv hK hH (id := [20]) (by first | trivial | (simp only [xD]; omega) | (simp [xD]; done) | (simp [xD]; omega)) (ci := 7) rfl (by decide) rfl) hH rfl rfl (Nat.le_of_ble_eq_true rfl) dX7_begin_3 (fun H locs hH hS => ?_)
  refine lv_if_ne (tgt := 13) hx hb dX7_begin_6 (by decide) (fun q_ => absurd q_ (fun z_ => z_ ((b01_eq0 _).mpr hxb))) (fun _ => ?_)
  refine lv_iconst (v := 1) hx hb dX7_begin_9 (by decide) ?_
  refine lv_goto (tgt := 35) hx hb dX7_begin_10 (by decide) ?_
  obtain ⟨I1_, hI1_⟩ : ∃ z, z = up I [20] 23 1 := ⟨_, rfl⟩
  refine x_put (C := RX7) (T := TX7) (N := 24) (ci := 7) hx hb hts iu7 tyX7 tyX7_ok nmX7 hown hK hH hS (id := [20]) (by first | trivial | (simp only [xD]; omega) | (simp [xD]; done) | (simp [xD]; omega)) rfl rfl (by decide) 23 (by decide) (hts _ tw862) (fun _ h9 => h9) (Or.inl rfl) (ty := .int) (v := .int 1) (by decide +kernel) rfl rfl (I' := I1_) (F' := (xFh h)) (fun i hi => by rw [hI1_]; exact up_id hi) (fun _ _ => rfl) (fun j9 => by rw [hI1_, up_row]; exact xv_upd (ci := 7) (k := 23) rfl j9) dX7_begin_35 (fun H locs hH hS => ?_)
  refine lv_aload_n hx hb dX7_begin_38 rfl (lv_at hl 0 rfl) ?_
  refine x_get (C := RX7) (T := TX7) (N := 24) (ci := 7) hx hb hts iu7 hown hK hH (id := [20]) (by first | trivial | (simp only [xD]; omega) | (simp [xD]; done) | (simp [xD]; omega)) rfl rfl (by decide) 23 (by decide) (hts _ tw862) (fun _ h9 => h9) rfl (v := .int 1) (congrArg Value.int (by rw [hI1_]; exact up_at)) dX7_begin_39 ?_
  refine lv_if_le (tgt := 47) hx hb dX7_begin_42 (by decide) (fun q_ => absurd q_ (by decide)) (fun _ => ?_)
  refine lv_iconst (v := 0) hx hb dX7_begin_45 (by decide) ?_
  exact x_iret hx hb hr hlocks hS dX7_begin_46 rfl (by rw [hI1_] at hH; exact hH)

set_option maxHeartbeats 1000000 in
set_option maxRecDepth 100000 in
theorem c_X7_begin_s (l : Launch) (g : xG) (h : xS) (I : xI) (n : Nat) (q : Nat) (hq : q ≤ 3) (hz : I [20] 10 = nI q) (p : Nat) (hp : p < q) (hs0 : I [24, 8] p = 0)  : xM l yX7_begin (xws yX7_begin cX7_begin 4 (some FieldType.int)) 3 55 g [.ref (ga g [20]), .int (nI p)] (xR g (xD h) I (xFh h) n) (some (.int 0)) (xR g (xD h) (up I [20] 23 2) (xFh h) n) 0 0 := by
  refine xM.of (by decide) (Nat.le_of_ble_eq_true rfl) ?_
  intro P_ e_ s m_ bl_ mt_ cd_ ls hx hb hr hown hlocks hml hnm hE hK hts hH hS hl
  have hl : lv_has ls 4 [(0, .ref (ga g [20])), (1, .int (nI p))] := hl
  refine lv_aload_n hx hb dX7_begin_0 rfl (lv_at hl 0 rfl) ?_
  refine lv_aload_n hx hb dX7_begin_1 rfl (lv_at hl 0 rfl) ?_
  refine lv_iload_n hx hb dX7_begin_2 rfl (lv_at hl 1 rfl) ?_
  refine x_V1 hx hb hml hown hE hS hl.1 cyX7_isPlan tw929 (c_X7_isPlan l g h I n ((nI p)) q (by omega) hz) ⟨Nat.le_of_ble_eq_true rfl, Nat.le_of_ble_eq_true rfl⟩ ⟨Nat.le_of_ble_eq_true rfl, Nat.le_of_ble_eq_true rfl⟩ (x_recv hK hH (id := [20]) (by first | trivial | (simp only [xD]; omega) | (simp [xD]; done) | (simp [xD]; omega)) (ci := 7) rfl (by decide) rfl) hH rfl rfl (Nat.le_of_ble_eq_true rfl) dX7_begin_3 (fun H locs hH hS => ?_)
  refine lv_if_ne (tgt := 13) hx hb dX7_begin_6 (by decide) (fun _ => ?_) (fun q_ => absurd q_ (fun z_ => by rw [sIn_nI hp (by omega)] at z_; exact absurd z_ (by decide)))
  refine lv_aload_n hx hb dX7_begin_13 rfl (lv_at hl 0 rfl) ?_
  refine x_get (C := RX7) (T := TX7) (N := 24) (ci := 7) hx hb hts iu7 hown hK hH (id := [20]) (by first | trivial | (simp only [xD]; omega) | (simp [xD]; done) | (simp [xD]; omega)) rfl rfl (by decide) 8 (by decide) (hts _ tw847) (fun _ h9 => h9) rfl (v := .ref (ga g [24, 8])) rfl dX7_begin_14 ?_
  refine lv_iload_n hx hb dX7_begin_17 rfl (lv_at hl 1 rfl) ?_
  refine x_iald hx hb hK hH (id := [24, 8]) (by first | trivial | (simp only [xD]; omega) | (simp [xD]; done) | (simp [xD]; omega)) (L := 3) rfl rfl p rfl (by omega) (by decide) dX7_begin_18 ?_
  refine lv_if_eq (tgt := 30) hx hb dX7_begin_19 (by decide) (fun _ => ?_) (fun q_ => absurd hs0 q_)
  refine lv_iconst (v := 2) hx hb dX7_begin_30 (by decide) ?_
  refine lv_goto (tgt := 35) hx hb dX7_begin_31 (by decide) ?_
  obtain ⟨I1_, hI1_⟩ : ∃ z, z = up I [20] 23 2 := ⟨_, rfl⟩
  refine x_put (C := RX7) (T := TX7) (N := 24) (ci := 7) hx hb hts iu7 tyX7 tyX7_ok nmX7 hown hK hH hS (id := [20]) (by first | trivial | (simp only [xD]; omega) | (simp [xD]; done) | (simp [xD]; omega)) rfl rfl (by decide) 23 (by decide) (hts _ tw862) (fun _ h9 => h9) (Or.inl rfl) (ty := .int) (v := .int 2) (by decide +kernel) rfl rfl (I' := I1_) (F' := (xFh h)) (fun i hi => by rw [hI1_]; exact up_id hi) (fun _ _ => rfl) (fun j9 => by rw [hI1_, up_row]; exact xv_upd (ci := 7) (k := 23) rfl j9) dX7_begin_35 (fun H locs hH hS => ?_)
  refine lv_aload_n hx hb dX7_begin_38 rfl (lv_at hl 0 rfl) ?_
  refine x_get (C := RX7) (T := TX7) (N := 24) (ci := 7) hx hb hts iu7 hown hK hH (id := [20]) (by first | trivial | (simp only [xD]; omega) | (simp [xD]; done) | (simp [xD]; omega)) rfl rfl (by decide) 23 (by decide) (hts _ tw862) (fun _ h9 => h9) rfl (v := .int 2) (congrArg Value.int (by rw [hI1_]; exact up_at)) dX7_begin_39 ?_
  refine lv_if_le (tgt := 47) hx hb dX7_begin_42 (by decide) (fun q_ => absurd q_ (by decide)) (fun _ => ?_)
  refine lv_iconst (v := 0) hx hb dX7_begin_45 (by decide) ?_
  exact x_iret hx hb hr hlocks hS dX7_begin_46 rfl (by rw [hI1_] at hH; exact hH)

set_option maxHeartbeats 1000000 in
set_option maxRecDepth 100000 in
theorem c_X7_begin_f (l : Launch) (g : xG) (h : xS) (I : xI) (n : Nat) (q : Nat) (hq : q ≤ 3) (hz : I [20] 10 = nI q) (p : Nat) (hp : p < q) (hs0 : ¬ I [24, 8] p = 0) (hm : I [20] 20 = 4)  : xM l yX7_begin (xws yX7_begin cX7_begin 4 (some FieldType.int)) 3 55 g [.ref (ga g [20]), .int (nI p)] (xR g (xD h) I (xFh h) n) (some (.int 0)) (xR g (xD h) (up I [20] 23 2) (xFh h) n) 0 0 := by
  refine xM.of (by decide) (Nat.le_of_ble_eq_true rfl) ?_
  intro P_ e_ s m_ bl_ mt_ cd_ ls hx hb hr hown hlocks hml hnm hE hK hts hH hS hl
  have hl : lv_has ls 4 [(0, .ref (ga g [20])), (1, .int (nI p))] := hl
  refine lv_aload_n hx hb dX7_begin_0 rfl (lv_at hl 0 rfl) ?_
  refine lv_aload_n hx hb dX7_begin_1 rfl (lv_at hl 0 rfl) ?_
  refine lv_iload_n hx hb dX7_begin_2 rfl (lv_at hl 1 rfl) ?_
  refine x_V1 hx hb hml hown hE hS hl.1 cyX7_isPlan tw929 (c_X7_isPlan l g h I n ((nI p)) q (by omega) hz) ⟨Nat.le_of_ble_eq_true rfl, Nat.le_of_ble_eq_true rfl⟩ ⟨Nat.le_of_ble_eq_true rfl, Nat.le_of_ble_eq_true rfl⟩ (x_recv hK hH (id := [20]) (by first | trivial | (simp only [xD]; omega) | (simp [xD]; done) | (simp [xD]; omega)) (ci := 7) rfl (by decide) rfl) hH rfl rfl (Nat.le_of_ble_eq_true rfl) dX7_begin_3 (fun H locs hH hS => ?_)
  refine lv_if_ne (tgt := 13) hx hb dX7_begin_6 (by decide) (fun _ => ?_) (fun q_ => absurd q_ (fun z_ => by rw [sIn_nI hp (by omega)] at z_; exact absurd z_ (by decide)))
  refine lv_aload_n hx hb dX7_begin_13 rfl (lv_at hl 0 rfl) ?_
  refine x_get (C := RX7) (T := TX7) (N := 24) (ci := 7) hx hb hts iu7 hown hK hH (id := [20]) (by first | trivial | (simp only [xD]; omega) | (simp [xD]; done) | (simp [xD]; omega)) rfl rfl (by decide) 8 (by decide) (hts _ tw847) (fun _ h9 => h9) rfl (v := .ref (ga g [24, 8])) rfl dX7_begin_14 ?_
  refine lv_iload_n hx hb dX7_begin_17 rfl (lv_at hl 1 rfl) ?_
  refine x_iald hx hb hK hH (id := [24, 8]) (by first | trivial | (simp only [xD]; omega) | (simp [xD]; done) | (simp [xD]; omega)) (L := 3) rfl rfl p rfl (by omega) (by decide) dX7_begin_18 ?_
  refine lv_if_eq (tgt := 30) hx hb dX7_begin_19 (by decide) (fun q_ => absurd q_ hs0) (fun _ => ?_)
  refine lv_aload_n hx hb dX7_begin_22 rfl (lv_at hl 0 rfl) ?_
  refine x_get (C := RX7) (T := TX7) (N := 24) (ci := 7) hx hb hts iu7 hown hK hH (id := [20]) (by first | trivial | (simp only [xD]; omega) | (simp [xD]; done) | (simp [xD]; omega)) rfl rfl (by decide) 20 (by decide) (hts _ tw859) (fun _ h9 => h9) rfl (v := .int 4) (congrArg Value.int hm) dX7_begin_23 ?_
  refine lv_iconst (v := 4) hx hb dX7_begin_26 (by decide) ?_
  refine lv_icmp_ne (tgt := 34) hx hb dX7_begin_27 (by decide) (fun q_ => absurd q_ (fun z_ => z_ rfl)) (fun _ => ?_)
  refine lv_iconst (v := 2) hx hb dX7_begin_30 (by decide) ?_
  refine lv_goto (tgt := 35) hx hb dX7_begin_31 (by decide) ?_
  obtain ⟨I1_, hI1_⟩ : ∃ z, z = up I [20] 23 2 := ⟨_, rfl⟩
  refine x_put (C := RX7) (T := TX7) (N := 24) (ci := 7) hx hb hts iu7 tyX7 tyX7_ok nmX7 hown hK hH hS (id := [20]) (by first | trivial | (simp only [xD]; omega) | (simp [xD]; done) | (simp [xD]; omega)) rfl rfl (by decide) 23 (by decide) (hts _ tw862) (fun _ h9 => h9) (Or.inl rfl) (ty := .int) (v := .int 2) (by decide +kernel) rfl rfl (I' := I1_) (F' := (xFh h)) (fun i hi => by rw [hI1_]; exact up_id hi) (fun _ _ => rfl) (fun j9 => by rw [hI1_, up_row]; exact xv_upd (ci := 7) (k := 23) rfl j9) dX7_begin_35 (fun H locs hH hS => ?_)
  refine lv_aload_n hx hb dX7_begin_38 rfl (lv_at hl 0 rfl) ?_
  refine x_get (C := RX7) (T := TX7) (N := 24) (ci := 7) hx hb hts iu7 hown hK hH (id := [20]) (by first | trivial | (simp only [xD]; omega) | (simp [xD]; done) | (simp [xD]; omega)) rfl rfl (by decide) 23 (by decide) (hts _ tw862) (fun _ h9 => h9) rfl (v := .int 2) (congrArg Value.int (by rw [hI1_]; exact up_at)) dX7_begin_39 ?_
  refine lv_if_le (tgt := 47) hx hb dX7_begin_42 (by decide) (fun q_ => absurd q_ (by decide)) (fun _ => ?_)
  refine lv_iconst (v := 0) hx hb dX7_begin_45 (by decide) ?_
  exact x_iret hx hb hr hlocks hS dX7_begin_46 rfl (by rw [hI1_] at hH; exact hH)

set_option maxHeartbeats 1000000 in
set_option maxRecDepth 100000 in
theorem c_X7_begin (l : Launch) (g : xG) (h : xS) (I : xI) (n : Nat) (c : Nat) (X : xX) (hc4 : c < 4) (hm : I [20] 20 = nI c) (q : Nat) (hq : q ≤ 3) (hz : I [20] 10 = nI q) (p : Nat) (hp : p < q) (hA : mA h I p) (hW : xWp h I p) (hs0 : ¬ sSz h p = 0)  : xM l yX7_begin (xws yX7_begin cX7_begin 4 (some FieldType.int)) 19 437 g [.ref (ga g [20]), .int (nI p)] (xR g (xD h) (mW I c X) (xFh h) n) (some (.int (nI c))) (xR g (xD h) (mW (up (up (up (up I [20] 23 0) [20] 20 (nI (c + 1))) [24, 11] c (nI p)) [24, 9] p 1) c (sTail (vP I p) (vC I p) (sCn h p) (sSz h p) (mNw X 8))) (xFh h) n) 0 0 := by
  refine xM.of (by decide) (Nat.le_of_ble_eq_true rfl) ?_
  intro P_ e_ s m_ bl_ mt_ cd_ ls hx hb hr hown hlocks hml hnm hE hK hts hH hS hl
  have hl : lv_has ls 4 [(0, .ref (ga g [20])), (1, .int (nI p))] := hl
  have h8 := hW.1
  have hpp : p < 3 := by omega
  refine lv_aload_n hx hb dX7_begin_0 rfl (lv_at hl 0 rfl) ?_
  refine lv_aload_n hx hb dX7_begin_1 rfl (lv_at hl 0 rfl) ?_
  refine lv_iload_n hx hb dX7_begin_2 rfl (lv_at hl 1 rfl) ?_
  refine x_V1 hx hb hml hown hE hS hl.1 cyX7_isPlan tw929 (c_X7_isPlan l g h (mW I c X) n (nI p) q (by omega) (by rw [mW_20 _ _ _ (by decide)]; exact hz)) ⟨Nat.le_of_ble_eq_true rfl, Nat.le_of_ble_eq_true rfl⟩ ⟨Nat.le_of_ble_eq_true rfl, Nat.le_of_ble_eq_true rfl⟩ (x_recv hK hH (id := [20]) (by first | trivial | (simp only [xD]; omega) | (simp [xD]; done) | (simp [xD]; omega)) (ci := 7) rfl (by decide) rfl) hH rfl rfl (Nat.le_of_ble_eq_true rfl) dX7_begin_3 (fun H locs hH hS => ?_)
  refine lv_if_ne (tgt := 13) hx hb dX7_begin_6 (by decide) (fun _ => ?_) (fun q_ => absurd q_ (fun z_ => by rw [sIn_nI hp (by omega)] at z_; exact absurd z_ (by decide)))
  refine lv_aload_n hx hb dX7_begin_13 rfl (lv_at hl 0 rfl) ?_
  refine x_get (C := RX7) (T := TX7) (N := 24) (ci := 7) hx hb hts iu7 hown hK hH (id := [20]) (by first | trivial | (simp only [xD]; omega) | (simp [xD]; done) | (simp [xD]; omega)) rfl rfl (by decide) 8 (by decide) (hts _ tw847) (fun _ h9 => h9) rfl (v := .ref (ga g [24, 8])) rfl dX7_begin_14 ?_
  refine lv_iload_n hx hb dX7_begin_17 rfl (lv_at hl 1 rfl) ?_
  refine x_iald hx hb hK hH (id := [24, 8]) (by first | trivial | (simp only [xD]; omega) | (simp [xD]; done) | (simp [xD]; omega)) (L := 3) rfl (r := (I [24, 8])) rfl p rfl (by omega) (by decide) dX7_begin_18 ?_
  rw [show (I [24, 8] p) = (nI (sSz h p)) from hA.1]
  refine lv_if_eq (tgt := 30) hx hb dX7_begin_19 (by decide) (fun q_ => absurd q_ (fun z_ => absurd ((nI_eq (a := sSz h p) (b := 0) (by omega) (by omega)).mp z_) (by omega))) (fun _ => ?_)
  refine lv_aload_n hx hb dX7_begin_22 rfl (lv_at hl 0 rfl) ?_
  refine x_get (C := RX7) (T := TX7) (N := 24) (ci := 7) hx hb hts iu7 hown hK hH (id := [20]) (by first | trivial | (simp only [xD]; omega) | (simp [xD]; done) | (simp [xD]; omega)) rfl rfl (by decide) 20 (by decide) (hts _ tw859) (fun _ h9 => h9) rfl (v := .int (nI c)) (congrArg Value.int ((mW_20 _ _ _ (by decide)).trans hm)) dX7_begin_23 ?_
  refine lv_iconst (v := 4) hx hb dX7_begin_26 (by decide) ?_
  refine lv_icmp_ne (tgt := 34) hx hb dX7_begin_27 (by decide) (fun _ => ?_) (fun q_ => absurd q_ (fun z_ => absurd ((nI_eq (a := c) (b := 4) (by omega) (by omega)).mp z_) (by omega)))
  refine lv_iconst (v := 0) hx hb dX7_begin_34 (by decide) ?_
  obtain ⟨I1_, hI1_⟩ : ∃ z, z = up I [20] 23 0 := ⟨_, rfl⟩
  refine x_put (C := RX7) (T := TX7) (N := 24) (ci := 7) hx hb hts iu7 tyX7 tyX7_ok nmX7 hown hK hH hS (id := [20]) (by first | trivial | (simp only [xD]; omega) | (simp [xD]; done) | (simp [xD]; omega)) rfl rfl (by decide) 23 (by decide) (hts _ tw862) (fun _ h9 => h9) (Or.inl rfl) (ty := .int) (v := .int 0) (by decide +kernel) rfl rfl (I' := (mW I1_ c X)) (F' := (xFh h)) (fun i hi => by rw [show (mW I1_ c X) = _ from Eq.symm ((mW_u20 _ _ _ _ (by decide)).trans (congrArg (fun z => mW z c X) hI1_.symm))]; exact up_id hi) (fun _ _ => rfl) (fun j9 => by rw [show (mW I1_ c X) = _ from Eq.symm ((mW_u20 _ _ _ _ (by decide)).trans (congrArg (fun z => mW z c X) hI1_.symm)), up_row]; exact xv_upd rfl j9) dX7_begin_35 (fun H locs hH hS => ?_)
  refine lv_aload_n hx hb dX7_begin_38 rfl (lv_at hl 0 rfl) ?_
  refine x_get (C := RX7) (T := TX7) (N := 24) (ci := 7) hx hb hts iu7 hown hK hH (id := [20]) (by first | trivial | (simp only [xD]; omega) | (simp [xD]; done) | (simp [xD]; omega)) rfl rfl (by decide) 23 (by decide) (hts _ tw862) (fun _ h9 => h9) rfl (v := .int 0) (congrArg Value.int ((mW_20 _ _ _ (by decide)).trans (by rw [hI1_]; exact up_at))) dX7_begin_39 ?_
  refine lv_if_le (tgt := 47) hx hb dX7_begin_42 (by decide) (fun _ => ?_) (fun q_ => absurd (by decide) q_)
  refine lv_aload_n hx hb dX7_begin_47 rfl (lv_at hl 0 rfl) ?_
  refine x_get (C := RX7) (T := TX7) (N := 24) (ci := 7) hx hb hts iu7 hown hK hH (id := [20]) (by first | trivial | (simp only [xD]; omega) | (simp [xD]; done) | (simp [xD]; omega)) rfl rfl (by decide) 20 (by decide) (hts _ tw859) (fun _ h9 => h9) rfl (v := .int (nI c)) (congrArg Value.int ((mW_20 _ _ _ (by decide)).trans (by rw [hI1_, up_ne (by decide)]; exact hm))) dX7_begin_48 ?_
  refine lv_istore_n (lv' := [(2, .int (nI c)), (0, .ref (ga g [20])), (1, .int (nI p))]) hx hb dX7_begin_51 rfl hl (by decide) rfl (fun ls hl => ?_)
  refine lv_aload_n hx hb dX7_begin_52 rfl (lv_at hl 1 rfl) ?_
  refine lv_dup hx hb dX7_begin_53 rfl ?_
  refine x_get (C := RX7) (T := TX7) (N := 24) (ci := 7) hx hb hts iu7 hown hK hH (id := [20]) (by first | trivial | (simp only [xD]; omega) | (simp [xD]; done) | (simp [xD]; omega)) rfl rfl (by decide) 20 (by decide) (hts _ tw859) (fun _ h9 => h9) rfl (v := .int (nI c)) (congrArg Value.int ((mW_20 _ _ _ (by decide)).trans (by rw [hI1_, up_ne (by decide)]; exact hm))) dX7_begin_54 ?_
  refine lv_iconst (v := 1) hx hb dX7_begin_57 (by decide) ?_
  refine lv_iadd hx hb dX7_begin_58 ?_
  rw [show ((nI c) + 1) = (nI (c + 1)) from (nI_1 _)]
  obtain ⟨I2_, hI2_⟩ : ∃ z, z = up I1_ [20] 20 (nI (c + 1)) := ⟨_, rfl⟩
  refine x_put (C := RX7) (T := TX7) (N := 24) (ci := 7) hx hb hts iu7 tyX7 tyX7_ok nmX7 hown hK hH hS (id := [20]) (by first | trivial | (simp only [xD]; omega) | (simp [xD]; done) | (simp [xD]; omega)) rfl rfl (by decide) 20 (by decide) (hts _ tw859) (fun _ h9 => h9) (Or.inl rfl) (ty := .int) (v := .int (nI (c + 1))) (by decide +kernel) rfl rfl (I' := (mW I2_ c X)) (F' := (xFh h)) (fun i hi => by rw [show (mW I2_ c X) = _ from Eq.symm ((mW_u20 _ _ _ _ (by decide)).trans (congrArg (fun z => mW z c X) hI2_.symm))]; exact up_id hi) (fun _ _ => rfl) (fun j9 => by rw [show (mW I2_ c X) = _ from Eq.symm ((mW_u20 _ _ _ _ (by decide)).trans (congrArg (fun z => mW z c X) hI2_.symm)), up_row]; exact xv_upd rfl j9) dX7_begin_59 (fun H locs hH hS => ?_)
  refine lv_aload_n hx hb dX7_begin_62 rfl (lv_at hl 1 rfl) ?_
  refine x_get (C := RX7) (T := TX7) (N := 24) (ci := 7) hx hb hts iu7 hown hK hH (id := [20]) (by first | trivial | (simp only [xD]; omega) | (simp [xD]; done) | (simp [xD]; omega)) rfl rfl (by decide) 11 (by decide) (hts _ tw850) (fun _ h9 => h9) rfl (v := .ref (ga g [24, 11])) rfl dX7_begin_63 ?_
  refine lv_iload_n hx hb dX7_begin_66 rfl (lv_at hl 0 rfl) ?_
  refine lv_iload_n hx hb dX7_begin_67 rfl (lv_at hl 2 rfl) ?_
  obtain ⟨I3_, hI3_⟩ : ∃ z, z = up I2_ [24, 11] c (nI p) := ⟨_, rfl⟩
  refine x_iast hx hb hK hH hS (id := [24, 11]) (by first | trivial | (simp only [xD]; omega) | (simp [xD]; done) | (simp [xD]; omega)) (L := 4) rfl c rfl (by omega) (by decide) ((mW_uJ I2_ c X [24, 11] c (nI p) rfl).trans (congrArg (fun z => mW z c X) hI3_.symm)) dX7_begin_68 (fun H locs hH hS => ?_)
  refine lv_aload_n hx hb dX7_begin_69 rfl (lv_at hl 1 rfl) ?_
  refine x_get (C := RX7) (T := TX7) (N := 24) (ci := 7) hx hb hts iu7 hown hK hH (id := [20]) (by first | trivial | (simp only [xD]; omega) | (simp [xD]; done) | (simp [xD]; omega)) rfl rfl (by decide) 9 (by decide) (hts _ tw848) (fun _ h9 => h9) rfl (v := .ref (ga g [24, 9])) rfl dX7_begin_70 ?_
  refine lv_iload_n hx hb dX7_begin_73 rfl (lv_at hl 2 rfl) ?_
  refine lv_iconst (v := 1) hx hb dX7_begin_74 (by decide) ?_
  obtain ⟨I4_, hI4_⟩ : ∃ z, z = up I3_ [24, 9] p 1 := ⟨_, rfl⟩
  refine x_bast hx hb hK hH hS (id := [24, 9]) (by first | trivial | (simp only [xD]; omega) | (simp [xD]; done) | (simp [xD]; omega)) (L := 3) rfl p rfl (by omega) (by decide) rfl ((mW_uJ I3_ c X [24, 9] p 1 rfl).trans (congrArg (fun z => mW z c X) hI4_.symm)) dX7_begin_75 (fun H locs hH hS => ?_)
  refine lv_iconst (v := 0) hx hb dX7_begin_76 (by decide) ?_
  refine lv_istore_n (lv' := [(3, .int 0), (2, .int (nI c)), (0, .ref (ga g [20])), (1, .int (nI p))]) hx hb dX7_begin_77 rfl hl (by decide) rfl (fun ls hl => ?_)
  have hH : xR g (xD h) (mW I4_ c (mNw X 0)) (xFh h) n H := by rw [mNw_0]; exact hH
  have L78 : ∀ (fu : Nat) (i : Nat) (H : Heap) (locs : List Loc) (ls : Array Slot), (i ≤ 8) → 8 - i < fu → xR g (xD h) (mW I4_ c (mNw X i)) (xFh h) n H → va_S (gA g) s.heap H locs → lv_has ls 4 [(0, .ref (ga g [20])), (1, .int (nI p)), (2, .int (nI c)), (3, .int (nI i))] → W P_ l e_ { frames := 19, cells := 0, slots := 0, locals := 437 } s m_ ([.ref (ga g [20]), .int (nI p)] : List Value).toArray bl_ mt_ cd_ H locs 0 0 (MQ bl_ (xQc g (some (.int (nI c))) (xR g (xD h) (mW (up (up (up (up I [20] 23 0) [20] 20 (nI (c + 1))) [24, 11] c (nI p)) [24, 9] p 1) c (sTail (vP I p) (vC I p) (sCn h p) (sSz h p) (mNw X 8))) (xFh h) n)) ([.ref (ga g [20]), .int (nI p)] : List Value).toArray s 0 0 (gA g)) (F0 m_ 78 ls []) := by
    intro fu
    induction fu with
    | zero => intro i H locs ls hi hfu; exact absurd hfu (Nat.not_lt_zero _)
    | succ fu ih78 =>
      intro i H locs ls hi hfu hH hS hl
      refine lv_iload_n hx hb dX7_begin_78 rfl (lv_at hl 3 rfl) ?_
      refine lv_bipush (v := 8) hx hb dX7_begin_79 (by decide) ?_
      refine lv_icmp_ge (tgt := 100) hx hb dX7_begin_81 (by decide) (fun c_81 => ?_) (fun c_81 => ?_)
      · skip
        have c_81 := (nI_leI (a := 8) (b := i) (by omega) (by omega)).mp c_81
        have hi8 : i = 8 := by omega
        subst hi8
        have hsm : ∀ id, pK id = true → I4_ id = I id := fun id hi => by rw [hI4_, up_id (fun e => by subst e; cases hi), hI3_, up_id (fun e => by subst e; cases hi), hI2_, up_id (fun e => by subst e; cases hi), hI1_, up_id (fun e => by subst e; cases hi)]
        have hpo1 : I4_ [24, 11] c = nI p := by rw [hI4_, up_id (by decide), hI3_]; exact up_at
        have hA1 := hA.same hsm
        have hW1 := hW.same hsm
        have e1 := vP_same hsm p
        have e2 := vC_same hsm p
        refine lv_aload_n hx hb dX7_begin_100 rfl (lv_at hl 0 rfl) ?_
        refine lv_iload_n hx hb dX7_begin_101 rfl (lv_at hl 2 rfl) ?_
        refine x_V0 hx hb hml hown hE hS hl.1 cyX7_goes tw984 (c_X7_goes l g h I4_ n c (mNw X 8) hc4 p hpp hpo1 hA1 hW1) ⟨Nat.le_of_ble_eq_true rfl, Nat.le_of_ble_eq_true rfl⟩ ⟨Nat.le_of_ble_eq_true rfl, Nat.le_of_ble_eq_true rfl⟩ (x_recv hK hH (id := [20]) (by first | trivial | (simp only [xD]; omega) | (simp [xD]; done) | (simp [xD]; omega)) (ci := 7) rfl (by decide) rfl) hH rfl rfl (Nat.le_of_ble_eq_true rfl) dX7_begin_102 (fun H locs hH hS => ?_)
        rw [e1, e2] at hH
        refine lv_iload_n hx hb dX7_begin_105 rfl (lv_at hl 2 rfl) ?_
        exact x_iret hx hb hr hlocks hS dX7_begin_106 rfl (by rw [hI4_, hI3_, hI2_, hI1_] at hH; exact hH)
      · skip
        have c_81 : ¬ _ := fun z_ => c_81 ((nI_leI (a := 8) (b := i) (by omega) (by omega)).mpr z_)
        refine lv_aload_n hx hb dX7_begin_84 rfl (lv_at hl 0 rfl) ?_
        refine x_get (C := RX7) (T := TX7) (N := 24) (ci := 7) hx hb hts iu7 hown hK hH (id := [20]) (by first | trivial | (simp only [xD]; omega) | (simp [xD]; done) | (simp [xD]; omega)) rfl rfl (by decide) 14 (by decide) (hts _ tw853) (fun _ h9 => h9) rfl (v := .ref (ga g [21, 14])) rfl dX7_begin_85 ?_
        refine lv_iload_n hx hb dX7_begin_88 rfl (lv_at hl 2 rfl) ?_
        refine x_aald hx hb hK hH (id := [21, 14]) (by first | trivial | (simp only [xD]; omega) | (simp [xD]; done) | (simp [xD]; omega)) 8 (L := 4) rfl (by decide) c rfl (by omega) (by decide) (v := .ref (ga g [22, 14, c])) (by show rq _ (if _ then _ else _) = _; rw [if_pos (show c < xLn 14 by show _ < 4; omega)]; rfl) dX7_begin_89 ?_
        refine lv_iload_n hx hb dX7_begin_90 rfl (lv_at hl 3 rfl) ?_
        refine lv_bipush (v := 105) hx hb dX7_begin_91 (by decide) ?_
        obtain ⟨X5_, hX5_⟩ : ∃ z, z = up2 (mNw X i) 2 i 105 := ⟨_, rfl⟩
        refine x_cast hx hb hK hH hS (id := [22, 14, c]) (by first | trivial | (simp only [xD]; omega) | (simp [xD]; done) | (simp [xD]; omega)) (L := 8) rfl i rfl (by omega) (by decide) rfl ((mW_u2 _ _ _ _ _).trans (congrArg (mW I4_ c) hX5_.symm)) dX7_begin_93 (fun H locs hH hS => ?_)
        rw [hX5_, mNw_s] at hH
        refine lv_iinc (v := (nI (i + 1))) (lv' := [(3, .int (nI (i + 1))), (0, .ref (ga g [20])), (1, .int (nI p)), (2, .int (nI c))]) hx hb dX7_begin_94 hl (k := 3) rfl (by first | rfl | exact nI_1 _ | exact nI_add _ _) (by decide) rfl (fun ls hl => ?_)
        refine lv_goto (tgt := 78) hx hb dX7_begin_97 (by decide) ?_
        exact ih78 (i + 1) _ _ _ (by omega) (by omega) hH hS (lv_sub hl [1, 2, 3, 0] rfl)
  exact L78 _ 0 _ _ _ (by omega) (Nat.lt_succ_self _) hH hS (lv_sub hl [2, 3, 1, 0] rfl)
