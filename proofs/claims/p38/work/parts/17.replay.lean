/-! CONTRACTS: the journal, all cases, replay -/
/-- may the thing w with x happen to a case of the plan p -/
def sVal (h : xS) (w : Nat) (x : Int32) (p : Nat) : Prop := match w with
  | 0 => ∃ q : Nat, q < sNp h ∧ x = nI q
  | 1 => p < sNp h ∧ ∃ k : Nat, k < 4 ∧ x = nI k
  | 3 => p < sNp h ∧ ∃ j : Nat, j < sSz h p ∧ x = nI j
  | 6 => ∃ q : Nat, q < sNp h ∧ x = nI q
  | _ => p < sNp h
def sHap (h : xS) (I : xI) (w : Nat) (x y : Int32) (s : Nat × xX) : Nat × xX := match w with
  | 0 => (x.toNatClampNeg, sTl h I x.toNatClampNeg (sNew s.2))
  | 1 => (s.1, sTl h I s.1 (up2 s.2 1 x.toNatClampNeg y))
  | 2 => (s.1, sTl h I s.1 (up2 s.2 0 8 x))
  | 3 => (s.1, sTl h I s.1 (sEnd (vP I s.1) (sSz h s.1) s.2 x.toNatClampNeg 99))
  | 4 => (s.1, sTl h I s.1 (up2 s.2 0 7 1))
  | 5 => (s.1, sTl h I s.1 (up2 s.2 0 7 0))
  | 6 => (x.toNatClampNeg, sTl h I x.toNatClampNeg s.2)
  | _ => (s.1, sTl h I s.1 (sOld (vP I s.1) (sSz h s.1) s.2))
/-- the plans, in order -/
def xWs0 (h : xS) (I : xI) : Prop := sNp h ≤ 3 ∧ I [0] 1 = nI (sNp h) ∧ ∀ p : Nat, p < sNp h → xWp h I p
theorem hPl_self (h : xS) (c : Nat) : hPl h c (sPl h c) = h := by
  obtain ⟨a, b, z, k, f, o9⟩ := h
  show (a, b, z, k, (fun d => if d = c then f c else f d), o9) = _
  refine congrArg (fun x => (a, b, z, k, x, o9)) (funext fun d => ?_)
  split
  · rename_i e; rw [e]
  · rfl
theorem hPl_hPl (h : xS) (c q q2 : Nat) : hPl (hPl h c q) c q2 = hPl h c q2 := by
  refine congrArg (fun x => (sNp h, sNc h, sSz h, sCn h, x, sOw h)) (funext fun d => ?_)
  show (if d = c then q2 else if d = c then q else sPl h d) = if d = c then q2 else sPl h d
  split <;> rfl
theorem xCh.hap {h : xS} {I : xI} {w : Nat} {x y : Int32} {s : Nat × xX} (hc : xCh s.2) : xCh (sHap h I w x y s).2 := by
  unfold sHap
  split
  · exact (xCh.new hc).tail
  · exact (hc.off (by decide) _ _).tail
  · exact (hc.off (by decide) _ _).tail
  · exact (hc.fin _ rfl).tail
  · exact (hc.off (by decide) _ _).tail
  · exact (hc.off (by decide) _ _).tail
  · exact hc.tail
  · exact hc.old.tail
theorem sVal_p {h : xS} {I : xI} {w : Nat} {x y : Int32} {s : Nat × xX} (h3 : sNp h ≤ 3) (hv : sVal h w x s.1) (hw : w ≤ 7) : (sHap h I w x y s).1 < sNp h ∧ ((sHap h I w x y s).1 = s.1 ∨ w = 0 ∨ w = 6) := by
  rcases (show w = 0 ∨ w = 1 ∨ w = 2 ∨ w = 3 ∨ w = 4 ∨ w = 5 ∨ w = 6 ∨ w = 7 by omega) with e | e | e | e | e | e | e | e <;> subst e
  · obtain ⟨q, hq, rfl⟩ := hv
    exact ⟨by show (nI q).toNatClampNeg < _; rw [nI_clamp (by omega)]; exact hq, Or.inr (Or.inl rfl)⟩
  · exact ⟨hv.1, Or.inl rfl⟩
  · exact ⟨hv, Or.inl rfl⟩
  · exact ⟨hv.1, Or.inl rfl⟩
  · exact ⟨hv, Or.inl rfl⟩
  · exact ⟨hv, Or.inl rfl⟩
  · obtain ⟨q, hq, rfl⟩ := hv
    exact ⟨by show (nI q).toNatClampNeg < _; rw [nI_clamp (by omega)]; exact hq, Or.inr (Or.inr rfl)⟩
  · exact ⟨hv, Or.inl rfl⟩
set_option maxHeartbeats 1000000 in
/-- what happens, of any kind -/
theorem c_X6_letHappen (l : Launch) (g : xG) (h : xS) (I : xI) (n c : Nat) (X : xX) (hc : c < sNc h ∨ c = 4) (p : Nat) (hp : sPl h c = p) (hW : xWs0 h I) (w : Nat) (hw : w ≤ 7) (wi x y : Int32) (hwi : wi = nI w) (hv : sVal h w x p) (hch : xCh X) : xM l yX6_letHappen (xws yX6_letHappen cX6_letHappen 5 none) 5 105 g [.ref (ga g [0]), .ref (ga g [11, c, 0]), .int wi, .int x, .int y] (xR g (xD h) (sX I c X) (xFh h) n) none (xR g (xD h) (sX I c (sHap h I w x y (p, X)).2) (xFh (hPl h c (sHap h I w x y (p, X)).1)) n) 0 0 := by
  subst hwi
  have hs : hPl h c p = h := by rw [← hp]; exact hPl_self h c
  obtain ⟨h3, hz, hW⟩ := hW
  rcases (show w = 0 ∨ w = 1 ∨ w = 2 ∨ w = 3 ∨ w = 4 ∨ w = 5 ∨ w = 6 ∨ w = 7 by omega) with e | e | e | e | e | e | e | e <;> subst e
  · obtain ⟨q, hq, rfl⟩ := hv
    have e : (nI q).toNatClampNeg = q := nI_clamp (by omega)
    have k := c_X6_letHappen_0 l g h I n c X hc q y hq (hW q hq) h3 hz hch
    unfold sHap; simp only [e]; exact k
  · obtain ⟨hpp, k0, hk, rfl⟩ := hv
    have e : (nI k0).toNatClampNeg = k0 := nI_clamp (by omega)
    have k := c_X6_letHappen_1 l g h I n c X hc p hp hpp (hW p hpp) y hch k0 hk
    unfold sHap; simp only [e, hs]; exact k
  · have k := c_X6_letHappen_2 l g h I n c X hc p hp hv (hW p hv) y hch x
    unfold sHap; simp only [hs]; exact k
  · obtain ⟨hpp, k0, hk, rfl⟩ := hv
    have e : (nI k0).toNatClampNeg = k0 := nI_clamp (by have := (hW p hpp).1; omega)
    have k := c_X6_letHappen_3 l g h I n c X hc p hp hpp (hW p hpp) y hch k0 hk
    unfold sHap; simp only [e, hs]; exact k
  · have k := c_X6_letHappen_4 l g h I n c X hc p hp hv (hW p hv) y hch x
    unfold sHap; simp only [hs]; exact k
  · have k := c_X6_letHappen_5 l g h I n c X hc p hp hv (hW p hv) y hch x
    unfold sHap; simp only [hs]; exact k
  · obtain ⟨q, hq, rfl⟩ := hv
    have e : (nI q).toNatClampNeg = q := nI_clamp (by omega)
    have k := c_X6_letHappen_6 l g h I n c X hc q y hq (hW q hq) h3 hz hch
    unfold sHap; simp only [e]; exact k
  · have k := c_X6_letHappen_7 l g h I n c X hc p hp hv (hW p hv) y hch x
    unfold sHap; simp only [hs]; exact k
set_option maxHeartbeats 1000000 in
set_option maxRecDepth 100000 in
theorem c_X6_noteAndDo (l : Launch) (g : xG) (h : xS) (I : xI) (n c : Nat) (X : xX) (hc : c < sNc h ∨ c = 4) (p : Nat) (hp : sPl h c = p) (hW : xWs0 h I) (w : Nat) (hw : w ≤ 7) (a wi x y : Int32) (hwi : wi = nI w) (hv : sVal h w x p) (hch : xCh X) (jn : Nat) (hjn : jn < 512) (hz : I [3] 4 = nI jn) : xM l yX6_noteAndDo (xws yX6_noteAndDo cX6_noteAndDo 6 none) 6 129 g [.ref (ga g [0]), .int a, .ref (ga g [11, c, 0]), .int wi, .int x, .int y] (xR g (xD h) (sX I c X) (xFh h) n) none (xR g (xD h) (sX (sJ I jn a wi x y) c (sHap h (sJ I jn a wi x y) w x y (p, X)).2) (xFh (hPl h c (sHap h (sJ I jn a wi x y) w x y (p, X)).1)) n) 0 0 := by
  refine xM.of (by decide) (Nat.le_of_ble_eq_true rfl) ?_
  intro P_ e_ s m_ bl_ mt_ cd_ ls hx hb hr hown hlocks hml hnm hE hK hts hH hS hl
  have hl : lv_has ls 6 [(0, .ref (ga g [0])), (1, .int a), (2, .ref (ga g [11, c, 0])), (3, .int wi), (4, .int x), (5, .int y)] := hl
  refine lv_aload_n hx hb dX6_noteAndDo_0 rfl (lv_at hl 0 rfl) ?_
  refine x_get (C := RX6) (T := TX6) (N := 6) (ci := 6) hx hb hts iu6 hown hK hH (id := [0]) (by first | trivial | (simp only [xD]; omega) | (simp [xD]; done) | (simp [xD]; omega)) rfl rfl (by decide) 4 (by decide) (hts _ tw135) (fun _ h9 => h9) rfl (v := .ref (ga g [3])) rfl dX6_noteAndDo_1 ?_
  refine lv_iload_n hx hb dX6_noteAndDo_4 rfl (lv_at hl 1 rfl) ?_
  refine lv_iload_n hx hb dX6_noteAndDo_5 rfl (lv_at hl 3 rfl) ?_
  refine lv_iload hx hb dX6_noteAndDo_6 (lv_at hl 4 rfl) ?_
  refine lv_iload hx hb dX6_noteAndDo_8 (lv_at hl 5 rfl) ?_
  refine x_V0 hx hb hml hown hE hS hl.1 cyX3_append tw488 (c_X3_append l g h (sX I c X) n jn a wi x y hjn hz) ⟨Nat.le_of_ble_eq_true rfl, Nat.le_of_ble_eq_true rfl⟩ ⟨Nat.le_of_ble_eq_true rfl, Nat.le_of_ble_eq_true rfl⟩ (x_recv hK hH (id := [3]) (by first | trivial | (simp only [xD]; omega) | (simp [xD]; done) | (simp [xD]; omega)) (ci := 3) rfl (by decide) rfl) hH rfl rfl (Nat.le_of_ble_eq_true rfl) dX6_noteAndDo_10 (fun H locs hH hS => ?_)
  rw [sX_sJ] at hH
  refine lv_aload_n hx hb dX6_noteAndDo_13 rfl (lv_at hl 0 rfl) ?_
  refine lv_aload_n hx hb dX6_noteAndDo_14 rfl (lv_at hl 2 rfl) ?_
  refine lv_iload_n hx hb dX6_noteAndDo_15 rfl (lv_at hl 3 rfl) ?_
  refine lv_iload hx hb dX6_noteAndDo_16 (lv_at hl 4 rfl) ?_
  refine lv_iload hx hb dX6_noteAndDo_18 (lv_at hl 5 rfl) ?_
  refine x_V0 hx hb hml hown hE hS hl.1 cyX6_letHappen tw492 (c_X6_letHappen l g h (sJ I jn a wi x y) n c X hc p hp hW w hw wi x y hwi hv hch) ⟨Nat.le_of_ble_eq_true rfl, Nat.le_of_ble_eq_true rfl⟩ ⟨Nat.le_of_ble_eq_true rfl, Nat.le_of_ble_eq_true rfl⟩ (x_recv hK hH (id := [0]) (by first | trivial | (simp only [xD]; omega) | (simp [xD]; done) | (simp [xD]; omega)) (ci := 6) rfl (by decide) rfl) hH rfl rfl (Nat.le_of_ble_eq_true rfl) dX6_noteAndDo_20 (fun H locs hH hS => ?_)
  exact x_vret hx hb hr hlocks hS dX6_noteAndDo_23 hH

def sLas (h : xS) (I : xI) : Nat → Nat
  | 0 => 0
  | i + 1 => sLas h I i + sLat (vP I (sPl h i)) (gX I i) (sSz h (sPl h i))
def sSas (h : xS) (I : xI) : Nat → Int64
  | 0 => 0
  | i + 1 => sSas h I i + sSum (gX I i) (sSz h (sPl h i))
/-- the cases, in order -/
def xWc (h : xS) (I : xI) : Prop := sNc h ≤ 4 ∧ I [0] 3 = nI (sNc h) ∧ ∀ c : Nat, c < sNc h → sPl h c < sNp h ∧ xCh (gX I c)
set_option maxHeartbeats 1000000 in
set_option maxRecDepth 100000 in
theorem c_X6_lateTasksOfAll (l : Launch) (g : xG) (h : xS) (I : xI) (n : Nat) (hW : xWs0 h I) (hC : xWc h I) : xM l yX6_lateTasksOfAll (xws yX6_lateTasksOfAll cX6_lateTasksOfAll 4 (some FieldType.int)) 4 77 g [.ref (ga g [0])] (xR g (xD h) I (xFh h) n) (some (.int (nI (sLas h I (sNc h))))) (xR g (xD h) I (xFh h) n) 0 0 := by
  refine xM.of (by decide) (Nat.le_of_ble_eq_true rfl) ?_
  intro P_ e_ s m_ bl_ mt_ cd_ ls hx hb hr hown hlocks hml hnm hE hK hts hH hS hl
  have hl : lv_has ls 4 [(0, .ref (ga g [0]))] := hl
  have h4 := hC.1
  refine lv_iconst (v := 0) hx hb dX6_lateTasksOfAll_0 (by decide) ?_
  refine lv_istore_n (lv' := [(1, .int 0), (0, .ref (ga g [0]))]) hx hb dX6_lateTasksOfAll_1 rfl hl (by decide) rfl (fun ls hl => ?_)
  refine lv_iconst (v := 0) hx hb dX6_lateTasksOfAll_2 (by decide) ?_
  refine lv_istore_n (lv' := [(2, .int 0), (1, .int 0), (0, .ref (ga g [0]))]) hx hb dX6_lateTasksOfAll_3 rfl hl (by decide) rfl (fun ls hl => ?_)
  have L4 : ∀ (fu : Nat) (i : Nat) (a : Nat) (H : Heap) (locs : List Loc) (ls : Array Slot), (i ≤ sNc h) → (a = sLas h I i) → sNc h - i < fu → xR g (xD h) I (xFh h) n H → va_S (gA g) s.heap H locs → lv_has ls 4 [(0, .ref (ga g [0])), (1, .int (nI a)), (2, .int (nI i))] → W P_ l e_ { frames := 4, cells := 0, slots := 0, locals := 77 } s m_ ([.ref (ga g [0])] : List Value).toArray bl_ mt_ cd_ H locs 0 0 (MQ bl_ (xQc g (some (.int (nI (sLas h I (sNc h))))) (xR g (xD h) I (xFh h) n)) ([.ref (ga g [0])] : List Value).toArray s 0 0 (gA g)) (F0 m_ 4 ls []) := by
    intro fu
    induction fu with
    | zero => intro i a H locs ls hi ha hfu; exact absurd hfu (Nat.not_lt_zero _)
    | succ fu ih4 =>
      intro i a H locs ls hi ha hfu hH hS hl
      refine lv_iload_n hx hb dX6_lateTasksOfAll_4 rfl (lv_at hl 2 rfl) ?_
      refine lv_aload_n hx hb dX6_lateTasksOfAll_5 rfl (lv_at hl 0 rfl) ?_
      refine x_get (C := RX6) (T := TX6) (N := 6) (ci := 6) hx hb hts iu6 hown hK hH (id := [0]) (by first | trivial | (simp only [xD]; omega) | (simp [xD]; done) | (simp [xD]; omega)) rfl rfl (by decide) 3 (by decide) (hts _ tw134) (fun _ h9 => h9) rfl (v := .int (nI (sNc h))) (congrArg Value.int hC.2.1) dX6_lateTasksOfAll_6 ?_
      refine lv_icmp_ge (tgt := 35) hx hb dX6_lateTasksOfAll_9 (by decide) (fun c_9 => ?_) (fun c_9 => ?_)
      · skip
        have c_9 := (nI_leI (a := (sNc h)) (b := i) (by omega) (by omega)).mp c_9
        refine lv_iload_n hx hb dX6_lateTasksOfAll_35 rfl (lv_at hl 1 rfl) ?_
        exact x_iret hx hb hr hlocks hS dX6_lateTasksOfAll_36 (by rw [ha, show sNc h = i by omega]) hH
      · skip
        have c_9 : ¬ _ := fun z_ => c_9 ((nI_leI (a := (sNc h)) (b := i) (by omega) (by omega)).mpr z_)
        refine lv_aload_n hx hb dX6_lateTasksOfAll_12 rfl (lv_at hl 0 rfl) ?_
        refine lv_iload_n hx hb dX6_lateTasksOfAll_13 rfl (lv_at hl 2 rfl) ?_
        refine x_V1 hx hb hml hown hE hS hl.1 cyX6_caseAt tw575 (c_X6_caseAt l g h I n i (by omega) h4 hC.2.1) ⟨Nat.le_of_ble_eq_true rfl, Nat.le_of_ble_eq_true rfl⟩ ⟨Nat.le_of_ble_eq_true rfl, Nat.le_of_ble_eq_true rfl⟩ (x_recv hK hH (id := [0]) (by first | trivial | (simp only [xD]; omega) | (simp [xD]; done) | (simp [xD]; omega)) (ci := 6) rfl (by decide) rfl) hH rfl rfl (Nat.le_of_ble_eq_true rfl) dX6_lateTasksOfAll_14 (fun H locs hH hS => ?_)
        have hpi := (hC.2.2 i (by omega)).1
        have hWp := hW.2.2 _ hpi
        refine lv_astore_n (lv' := [(3, .ref (ga g [11, i, 0])), (0, .ref (ga g [0])), (1, .int (nI a)), (2, .int (nI i))]) hx hb dX6_lateTasksOfAll_17 rfl hl (by decide) rfl (fun ls hl => ?_)
        refine lv_aload_n hx hb dX6_lateTasksOfAll_18 rfl (lv_at hl 0 rfl) ?_
        refine lv_ifnull hx hb dX6_lateTasksOfAll_19 ?_
        refine lv_iload_n hx hb dX6_lateTasksOfAll_22 rfl (lv_at hl 2 rfl) ?_
        refine lv_aload_n hx hb dX6_lateTasksOfAll_23 rfl (lv_at hl 0 rfl) ?_
        rw [← sX_get I i] at hH
        refine x_V1 hx hb hml hown hE hS hl.1 cyX0_lateTasks tw632 (c_X0_lateTasks l g h I n i (gX I i) (Or.inl (by omega)) (sPl h i) rfl hpi hWp (hC.2.2 i (by omega)).2) ⟨Nat.le_of_ble_eq_true rfl, Nat.le_of_ble_eq_true rfl⟩ ⟨Nat.le_of_ble_eq_true rfl, Nat.le_of_ble_eq_true rfl⟩ (x_recv hK hH (id := [11, i, 0]) (by first | trivial | (simp only [xD]; omega) | (simp [xD]; done) | (simp [xD]; omega)) (ci := 0) rfl (by decide) rfl) hH rfl rfl (Nat.le_of_ble_eq_true rfl) dX6_lateTasksOfAll_24 (fun H locs hH hS => ?_)
        rw [sX_get] at hH
        refine lv_iadd hx hb dX6_lateTasksOfAll_27 ?_
        rw [show ((nI a) + (nI (sLat (vP I (sPl h i)) (gX I i) (sSz h (sPl h i))))) = (nI (a + sLat (vP I (sPl h i)) (gX I i) (sSz h (sPl h i)))) from (nI_add _ _)]
        refine lv_istore_n (lv' := [(1, .int (nI (a + sLat (vP I (sPl h i)) (gX I i) (sSz h (sPl h i))))), (3, .ref (ga g [11, i, 0])), (0, .ref (ga g [0])), (2, .int (nI i))]) hx hb dX6_lateTasksOfAll_28 rfl hl (by decide) rfl (fun ls hl => ?_)
        refine lv_iinc (v := (nI (i + 1))) (lv' := [(2, .int (nI (i + 1))), (1, .int (nI (a + sLat (vP I (sPl h i)) (gX I i) (sSz h (sPl h i))))), (3, .ref (ga g [11, i, 0])), (0, .ref (ga g [0]))]) hx hb dX6_lateTasksOfAll_29 hl (k := 3) rfl (by first | rfl | exact nI_1 _ | exact nI_add _ _) (by decide) rfl (fun ls hl => ?_)
        refine lv_goto (tgt := 4) hx hb dX6_lateTasksOfAll_32 (by decide) ?_
        exact ih4 (i + 1) ((a + sLat (vP I (sPl h i)) (gX I i) (sSz h (sPl h i)))) _ _ _ (by omega) (by rw [ha]; rfl) (by omega) hH hS (lv_sub hl [3, 1, 0] rfl)
  exact L4 _ 0 0 _ _ _ (by omega) rfl (Nat.lt_succ_self _) hH hS (lv_sub hl [2, 1, 0] rfl)

set_option maxHeartbeats 1000000 in
set_option maxRecDepth 100000 in
theorem c_X6_daysWorked (l : Launch) (g : xG) (h : xS) (I : xI) (n : Nat) (hW : xWs0 h I) (hC : xWc h I) : xM l yX6_daysWorked (xws yX6_daysWorked cX6_daysWorked 5 (some FieldType.long)) 3 56 g [.ref (ga g [0])] (xR g (xD h) I (xFh h) n) (some (.long (sSas h I (sNc h)))) (xR g (xD h) I (xFh h) n) 0 0 := by
  refine xM.of (by decide) (Nat.le_of_ble_eq_true rfl) ?_
  intro P_ e_ s m_ bl_ mt_ cd_ ls hx hb hr hown hlocks hml hnm hE hK hts hH hS hl
  have hl : lv_has ls 5 [(0, .ref (ga g [0]))] := hl
  have h4 := hC.1
  refine lv_lconst (v := 0) hx hb dX6_daysWorked_0 (by decide) ?_
  refine lv_lstore_n (lv' := [(1, .long 0), (0, .ref (ga g [0]))]) hx hb dX6_daysWorked_1 rfl hl (by decide) rfl (fun ls hl => ?_)
  refine lv_iconst (v := 0) hx hb dX6_daysWorked_2 (by decide) ?_
  refine lv_istore_n (lv' := [(3, .int 0), (1, .long 0), (0, .ref (ga g [0]))]) hx hb dX6_daysWorked_3 rfl hl (by decide) rfl (fun ls hl => ?_)
  have L4 : ∀ (fu : Nat) (i : Nat) (a : Int64) (H : Heap) (locs : List Loc) (ls : Array Slot), (i ≤ sNc h) → (a = sSas h I i) → sNc h - i < fu → xR g (xD h) I (xFh h) n H → va_S (gA g) s.heap H locs → lv_has ls 5 [(0, .ref (ga g [0])), (1, .long a), (3, .int (nI i))] → W P_ l e_ { frames := 3, cells := 0, slots := 0, locals := 56 } s m_ ([.ref (ga g [0])] : List Value).toArray bl_ mt_ cd_ H locs 0 0 (MQ bl_ (xQc g (some (.long (sSas h I (sNc h)))) (xR g (xD h) I (xFh h) n)) ([.ref (ga g [0])] : List Value).toArray s 0 0 (gA g)) (F0 m_ 4 ls []) := by
    intro fu
    induction fu with
    | zero => intro i a H locs ls hi ha hfu; exact absurd hfu (Nat.not_lt_zero _)
    | succ fu ih4 =>
      intro i a H locs ls hi ha hfu hH hS hl
      refine lv_iload_n hx hb dX6_daysWorked_4 rfl (lv_at hl 2 rfl) ?_
      refine lv_aload_n hx hb dX6_daysWorked_5 rfl (lv_at hl 0 rfl) ?_
      refine x_get (C := RX6) (T := TX6) (N := 6) (ci := 6) hx hb hts iu6 hown hK hH (id := [0]) (by first | trivial | (simp only [xD]; omega) | (simp [xD]; done) | (simp [xD]; omega)) rfl rfl (by decide) 3 (by decide) (hts _ tw134) (fun _ h9 => h9) rfl (v := .int (nI (sNc h))) (congrArg Value.int hC.2.1) dX6_daysWorked_6 ?_
      refine lv_icmp_ge (tgt := 38) hx hb dX6_daysWorked_9 (by decide) (fun c_9 => ?_) (fun c_9 => ?_)
      · skip
        have c_9 := (nI_leI (a := (sNc h)) (b := i) (by omega) (by omega)).mp c_9
        refine lv_lload_n hx hb dX6_daysWorked_38 rfl (lv_at hl 1 rfl) ?_
        exact x_lret hx hb hr hlocks hS dX6_daysWorked_39 (by rw [ha, show sNc h = i by omega]) hH
      · skip
        have c_9 : ¬ _ := fun z_ => c_9 ((nI_leI (a := (sNc h)) (b := i) (by omega) (by omega)).mpr z_)
        refine lv_aload_n hx hb dX6_daysWorked_12 rfl (lv_at hl 0 rfl) ?_
        refine lv_iload_n hx hb dX6_daysWorked_13 rfl (lv_at hl 2 rfl) ?_
        refine x_V1 hx hb hml hown hE hS hl.1 cyX6_caseAt tw575 (c_X6_caseAt l g h I n i (by omega) h4 hC.2.1) ⟨Nat.le_of_ble_eq_true rfl, Nat.le_of_ble_eq_true rfl⟩ ⟨Nat.le_of_ble_eq_true rfl, Nat.le_of_ble_eq_true rfl⟩ (x_recv hK hH (id := [0]) (by first | trivial | (simp only [xD]; omega) | (simp [xD]; done) | (simp [xD]; omega)) (ci := 6) rfl (by decide) rfl) hH rfl rfl (Nat.le_of_ble_eq_true rfl) dX6_daysWorked_14 (fun H locs hH hS => ?_)
        have hpi := (hC.2.2 i (by omega)).1
        have hWp := hW.2.2 _ hpi
        refine lv_astore (lv' := [(4, .ref (ga g [11, i, 0])), (0, .ref (ga g [0])), (1, .long a), (3, .int (nI i))]) hx hb dX6_daysWorked_17 hl (by decide) rfl (fun ls hl => ?_)
        refine lv_aload hx hb dX6_daysWorked_19 (lv_at hl 0 rfl) ?_
        refine lv_ifnull hx hb dX6_daysWorked_21 ?_
        refine lv_lload_n hx hb dX6_daysWorked_24 rfl (lv_at hl 2 rfl) ?_
        refine lv_aload hx hb dX6_daysWorked_25 (lv_at hl 0 rfl) ?_
        rw [← sX_get I i] at hH
        refine x_V1 hx hb hml hown hE hS hl.1 cyX0_sumOfClocks tw786 (c_X0_sumOfClocks l g h I n i (gX I i) (Or.inl (by omega)) (sPl h i) rfl hpi hWp) ⟨Nat.le_of_ble_eq_true rfl, Nat.le_of_ble_eq_true rfl⟩ ⟨Nat.le_of_ble_eq_true rfl, Nat.le_of_ble_eq_true rfl⟩ (x_recv hK hH (id := [11, i, 0]) (by first | trivial | (simp only [xD]; omega) | (simp [xD]; done) | (simp [xD]; omega)) (ci := 0) rfl (by decide) rfl) hH rfl rfl (Nat.le_of_ble_eq_true rfl) dX6_daysWorked_27 (fun H locs hH hS => ?_)
        rw [sX_get] at hH
        refine lv_ladd hx hb dX6_daysWorked_30 ?_
        refine lv_lstore_n (lv' := [(1, .long (a + (sSum (gX I i) (sSz h (sPl h i))))), (4, .ref (ga g [11, i, 0])), (0, .ref (ga g [0])), (3, .int (nI i))]) hx hb dX6_daysWorked_31 rfl hl (by decide) rfl (fun ls hl => ?_)
        refine lv_iinc (v := (nI (i + 1))) (lv' := [(3, .int (nI (i + 1))), (1, .long (a + (sSum (gX I i) (sSz h (sPl h i))))), (4, .ref (ga g [11, i, 0])), (0, .ref (ga g [0]))]) hx hb dX6_daysWorked_32 hl (k := 3) rfl (by first | rfl | exact nI_1 _ | exact nI_add _ _) (by decide) rfl (fun ls hl => ?_)
        refine lv_goto (tgt := 4) hx hb dX6_daysWorked_35 (by decide) ?_
        exact ih4 (i + 1) ((a + (sSum (gX I i) (sSz h (sPl h i))))) _ _ _ (by omega) (by rw [ha]; rfl) (by omega) hH hS (lv_sub hl [3, 1, 0] rfl)
  exact L4 _ 0 0 _ _ _ (by omega) rfl (Nat.lt_succ_self _) hH hS (lv_sub hl [2, 1, 0] rfl)

def sItr (h : xS) (I : xI) (w : Nat) (x y : Int32) : Nat → Nat × xX → Nat × xX
  | 0, s => s
  | k + 1, s => sHap h I w x y (sItr h I w x y k s)
def sTim (I : xI) (r : Nat) : Nat := if I [4, 1] r = 7 then (I [4, 2] r).toNatClampNeg else 1
def sBeg (I : xI) (c : Int32) (b : Bool) (r : Nat) : Bool := b || (decide (I [4, 0] r = c) && decide (I [4, 1] r = 0))
def sRep (h : xS) (I : xI) (c : Int32) (s0 : Bool × (Nat × xX)) : Nat → Bool × (Nat × xX)
  | 0 => s0
  | r + 1 => if sBeg I c (sRep h I c s0 r).1 r = true ∧ (I [4, 0] r = c ∨ I [4, 0] r = -1) then (sBeg I c (sRep h I c s0 r).1 r, sItr h I (I [4, 1] r).toNatClampNeg (I [4, 2] r) (I [4, 3] r) (sTim I r) (sRep h I c s0 r).2) else (sBeg I c (sRep h I c s0 r).1 r, (sRep h I c s0 r).2)
def sDy (I : xI) (r : Nat) : Prop := ∃ d : Nat, d ≤ 10 ∧ I [4, 2] r = nI d
/-- the journal's rows may happen to the case, one after the other -/
def sJV (h : xS) (I : xI) (c : Int32) (s0 : Bool × (Nat × xX)) (jn : Nat) : Prop := ∀ r : Nat, r < jn → sBeg I c (sRep h I c s0 r).1 r = true → (I [4, 0] r = c ∨ I [4, 0] r = -1) →
  ∃ w : Nat, w ≤ 7 ∧ I [4, 1] r = nI w ∧ (w = 7 → sDy I r) ∧ sVal h w (I [4, 2] r) (sRep h I c s0 r).2.1
theorem sTim_7 {I : xI} {r d : Nat} (h : I [4, 1] r = 7) (hd : I [4, 2] r = nI d) (h10 : d ≤ 10) : sTim I r = d := by rw [sTim, if_pos h, hd, nI_clamp (by omega)]
theorem sTim_1 {I : xI} {r : Nat} (h : ¬ I [4, 1] r = 7) : sTim I r = 1 := if_neg h
set_option maxHeartbeats 4000000 in
set_option maxRecDepth 100000 in
theorem c_X6_replay (l : Launch) (g : xG) (h : xS) (I : xI) (n : Nat) (c : Nat) (p : Nat) (X : xX) (hp : sPl h 4 = p) (hW : xWs0 h I) (hch : xCh X) (jn : Nat) (hjn : jn ≤ 512) (hz : I [3] 4 = nI jn) (hJV : sJV h I (nI c) (false, (p, X)) jn) : xM l yX6_replay (xws yX6_replay cX6_replay 8 none) 6 129 g [.ref (ga g [0]), .int (nI c)] (xR g (xD h) (sX I 4 X) (xFh h) n) none (xR g (xD h) (sX I 4 (sRep h I (nI c) (false, (p, X)) jn).2.2) (xFh (hPl h 4 (sRep h I (nI c) (false, (p, X)) jn).2.1)) n) 0 0 := by
  refine xM.of (by decide) (Nat.le_of_ble_eq_true rfl) ?_
  intro P_ e_ s m_ bl_ mt_ cd_ ls hx hb hr hown hlocks hml hnm hE hK hts hH hS hl
  have hl : lv_has ls 8 [(0, .ref (ga g [0])), (1, .int (nI c))] := hl
  have hp4 : hPl h 4 p = h := by rw [← hp]; exact hPl_self h 4
  rw [← hp4] at hH
  refine lv_iconst (v := 0) hx hb dX6_replay_0 (by decide) ?_
  refine lv_istore_n (lv' := [(2, .int 0), (0, .ref (ga g [0])), (1, .int (nI c))]) hx hb dX6_replay_1 rfl hl (by decide) rfl (fun ls hl => ?_)
  refine lv_iconst (v := 0) hx hb dX6_replay_2 (by decide) ?_
  refine lv_istore_n (lv' := [(3, .int 0), (2, .int 0), (0, .ref (ga g [0])), (1, .int (nI c))]) hx hb dX6_replay_3 rfl hl (by decide) rfl (fun ls hl => ?_)
  have L4 : ∀ (fu : Nat) (r : Nat) (b : Bool) (q : Nat) (Y : xX) (H : Heap) (locs : List Loc) (ls : Array Slot), (r ≤ jn) → (sRep h I (nI c) (false, (p, X)) r = (b, (q, Y))) → (xCh Y) → jn - r < fu → xR g (xD h) (sX I 4 Y) (xFh (hPl h 4 q)) n H → va_S (gA g) s.heap H locs → lv_has ls 8 [(0, .ref (ga g [0])), (1, .int (nI c)), (2, .int (b01 b)), (3, .int (nI r))] → W P_ l e_ { frames := 6, cells := 0, slots := 0, locals := 129 } s m_ ([.ref (ga g [0]), .int (nI c)] : List Value).toArray bl_ mt_ cd_ H locs 0 0 (MQ bl_ (xQc g none (xR g (xD h) (sX I 4 (sRep h I (nI c) (false, (p, X)) jn).2.2) (xFh (hPl h 4 (sRep h I (nI c) (false, (p, X)) jn).2.1)) n)) ([.ref (ga g [0]), .int (nI c)] : List Value).toArray s 0 0 (gA g)) (F0 m_ 4 ls []) := by
    intro fu
    induction fu with
    | zero => intro r b q Y H locs ls hr1 hR hcy hfu; exact absurd hfu (Nat.not_lt_zero _)
    | succ fu ih4 =>
      intro r b q Y H locs ls hr1 hR hcy hfu hH hS hl
      refine lv_iload_n hx hb dX6_replay_4 rfl (lv_at hl 3 rfl) ?_
      refine lv_aload_n hx hb dX6_replay_5 rfl (lv_at hl 0 rfl) ?_
      refine x_get (C := RX6) (T := TX6) (N := 6) (ci := 6) hx hb hts iu6 hown hK hH (id := [0]) (by first | trivial | (simp only [xD]; omega) | (simp [xD]; done) | (simp [xD]; omega)) rfl rfl (by decide) 4 (by decide) (hts _ tw135) (fun _ h9 => h9) rfl (v := .ref (ga g [3])) rfl dX6_replay_6 ?_
      refine x_get (C := RX3) (T := TX3) (N := 5) (ci := 3) hx hb hts iu3 hown hK hH (id := [3]) (by first | trivial | (simp only [xD]; omega) | (simp [xD]; done) | (simp [xD]; omega)) rfl rfl (by decide) 4 (by decide) (hts _ tw48) (fun _ h9 => h9) rfl (v := .int (nI jn)) (congrArg Value.int hz) dX6_replay_9 ?_
      refine lv_icmp_ge (tgt := 148) hx hb dX6_replay_12 (by decide) (fun c_12 => ?_) (fun c_12 => ?_)
      · skip
        have c_12 := (nI_leI (a := jn) (b := r) (by omega) (by omega)).mp c_12
        exact x_vret hx hb hr hlocks hS dX6_replay_148 (by rw [show jn = r by omega, hR]; exact hH)
      · skip
        have c_12 : ¬ _ := fun z_ => c_12 ((nI_leI (a := jn) (b := r) (by omega) (by omega)).mpr z_)
        refine lv_iload_n hx hb dX6_replay_15 rfl (lv_at hl 3 rfl) ?_
        refine lv_sipush (v := 512) hx hb dX6_replay_16 (by decide) ?_
        refine lv_icmp_ge (tgt := 148) hx hb dX6_replay_19 (by decide) (fun q_ => absurd q_ (fun z_ => absurd ((nI_leI (a := 512) (b := r) (by omega) (by omega)).mp z_) (by omega))) (fun _ => ?_)
        refine lv_aload_n hx hb dX6_replay_22 rfl (lv_at hl 0 rfl) ?_
        refine x_get (C := RX6) (T := TX6) (N := 6) (ci := 6) hx hb hts iu6 hown hK hH (id := [0]) (by first | trivial | (simp only [xD]; omega) | (simp [xD]; done) | (simp [xD]; omega)) rfl rfl (by decide) 4 (by decide) (hts _ tw135) (fun _ h9 => h9) rfl (v := .ref (ga g [3])) rfl dX6_replay_23 ?_
        refine x_get (C := RX3) (T := TX3) (N := 5) (ci := 3) hx hb hts iu3 hown hK hH (id := [3]) (by first | trivial | (simp only [xD]; omega) | (simp [xD]; done) | (simp [xD]; omega)) rfl rfl (by decide) 0 (by decide) (hts _ tw40) (fun _ h9 => h9) rfl (v := .ref (ga g [4, 0])) rfl dX6_replay_26 ?_
        refine lv_iload_n hx hb dX6_replay_29 rfl (lv_at hl 3 rfl) ?_
        refine x_iald hx hb hK hH (id := [4, 0]) (by first | trivial | (simp only [xD]; omega) | (simp [xD]; done) | (simp [xD]; omega)) (L := 512) rfl rfl r rfl (by omega) (by decide) dX6_replay_30 ?_
        refine lv_istore (lv' := [(4, .int (I [4, 0] r)), (0, .ref (ga g [0])), (1, .int (nI c)), (2, .int (b01 b)), (3, .int (nI r))]) hx hb dX6_replay_31 hl (by decide) rfl (fun ls hl => ?_)
        refine lv_aload_n hx hb dX6_replay_33 rfl (lv_at hl 1 rfl) ?_
        refine x_get (C := RX6) (T := TX6) (N := 6) (ci := 6) hx hb hts iu6 hown hK hH (id := [0]) (by first | trivial | (simp only [xD]; omega) | (simp [xD]; done) | (simp [xD]; omega)) rfl rfl (by decide) 4 (by decide) (hts _ tw135) (fun _ h9 => h9) rfl (v := .ref (ga g [3])) rfl dX6_replay_34 ?_
        refine x_get (C := RX3) (T := TX3) (N := 5) (ci := 3) hx hb hts iu3 hown hK hH (id := [3]) (by first | trivial | (simp only [xD]; omega) | (simp [xD]; done) | (simp [xD]; omega)) rfl rfl (by decide) 1 (by decide) (hts _ tw42) (fun _ h9 => h9) rfl (v := .ref (ga g [4, 1])) rfl dX6_replay_37 ?_
        refine lv_iload_n hx hb dX6_replay_40 rfl (lv_at hl 4 rfl) ?_
        refine x_iald hx hb hK hH (id := [4, 1]) (by first | trivial | (simp only [xD]; omega) | (simp [xD]; done) | (simp [xD]; omega)) (L := 512) rfl rfl r rfl (by omega) (by decide) dX6_replay_41 ?_
        refine lv_istore (lv' := [(5, .int (I [4, 1] r)), (4, .int (I [4, 0] r)), (0, .ref (ga g [0])), (1, .int (nI c)), (2, .int (b01 b)), (3, .int (nI r))]) hx hb dX6_replay_42 hl (by decide) rfl (fun ls hl => ?_)
        have J57 : ∀ (H : Heap) (locs : List Loc) (ls : Array Slot), xR g (xD h) (sX I 4 Y) (xFh (hPl h 4 q)) n H → va_S (gA g) s.heap H locs → lv_has ls 8 [(0, .ref (ga g [0])), (1, .int (nI c)), (2, .int (b01 (sBeg I (nI c) b r))), (3, .int (nI r)), (4, .int (I [4, 0] r)), (5, .int (I [4, 1] r))] → W P_ l e_ { frames := 6, cells := 0, slots := 0, locals := 129 } s m_ ([.ref (ga g [0]), .int (nI c)] : List Value).toArray bl_ mt_ cd_ H locs 0 0 (MQ bl_ (xQc g none (xR g (xD h) (sX I 4 (sRep h I (nI c) (false, (p, X)) jn).2.2) (xFh (hPl h 4 (sRep h I (nI c) (false, (p, X)) jn).2.1)) n)) ([.ref (ga g [0]), .int (nI c)] : List Value).toArray s 0 0 (gA g)) (F0 m_ 57 ls []) := by
          intro H locs ls  hH hS hl
          refine lv_iload_n hx hb dX6_replay_57 rfl (lv_at hl 2 rfl) ?_
          refine lv_if_eq (tgt := 142) hx hb dX6_replay_58 (by decide) (fun c_58 => ?_) (fun c_58 => ?_)
          · skip
            refine lv_iinc (v := (nI (r + 1))) (lv' := [(3, .int (nI (r + 1))), (0, .ref (ga g [0])), (1, .int (nI c)), (2, .int (b01 (sBeg I (nI c) b r))), (4, .int (I [4, 0] r)), (5, .int (I [4, 1] r))]) hx hb dX6_replay_142 hl (k := 3) rfl (by first | rfl | exact nI_1 _ | exact nI_add _ _) (by decide) rfl (fun ls hl => ?_)
            refine lv_goto (tgt := 4) hx hb dX6_replay_145 (by decide) ?_
            exact ih4 (r + 1) ((sBeg I (nI c) b r)) q Y _ _ _ (by omega) (by show (if _ then _ else _) = _; rw [hR]; exact if_neg (fun z_ => by rw [(b01_eq0 _).mp c_58] at z_; cases z_.1)) hcy (by omega) hH hS (lv_sub hl [1, 2, 3, 0] rfl)
          · skip
            have J76 : ∀ (H : Heap) (locs : List Loc), (I [4, 0] r = nI c ∨ I [4, 0] r = -1) → xR g (xD h) (sX I 4 Y) (xFh (hPl h 4 q)) n H → va_S (gA g) s.heap H locs → W P_ l e_ { frames := 6, cells := 0, slots := 0, locals := 129 } s m_ ([.ref (ga g [0]), .int (nI c)] : List Value).toArray bl_ mt_ cd_ H locs 0 0 (MQ bl_ (xQc g none (xR g (xD h) (sX I 4 (sRep h I (nI c) (false, (p, X)) jn).2.2) (xFh (hPl h 4 (sRep h I (nI c) (false, (p, X)) jn).2.1)) n)) ([.ref (ga g [0]), .int (nI c)] : List Value).toArray s 0 0 (gA g)) (F0 m_ 76 ls []) := by
              intro H locs hj76 hH hS
              have hw1 := hj76
              have hb1 : (sBeg I (nI c) b r) = true := b01_ne0 c_58
              obtain ⟨w, hw7, hw0, hwd, hvl⟩ := hJV r (by omega) (by rw [hR]; exact hb1) hw1
              rw [hR] at hvl
              have hcw : (I [4, 1] r).toNatClampNeg = w := by rw [hw0]; exact nI_clamp (by omega)
              have hT10 : sTim I r ≤ 10 := by by_cases e7 : I [4, 1] r = 7; (obtain ⟨d, hd0, hd1⟩ := hwd (by have := nI_eq (a := w) (b := 7) (by omega) (by omega); exact this.mp (hw0.symm.trans e7)); rw [sTim_7 e7 hd1 hd0]; exact hd0); (rw [sTim_1 e7]; decide)
              have hT0 : w = 0 → sTim I r = 1 := fun e0 => sTim_1 (fun e7 => by rw [hw0, e0] at e7; exact absurd e7 (by decide))
              have hT6 : w = 6 → sTim I r = 1 := fun e0 => sTim_1 (fun e7 => by rw [hw0, e0] at e7; exact absurd e7 (by decide))
              refine lv_iload hx hb dX6_replay_76 (lv_at hl 5 rfl) ?_
              have J98 : ∀ (H : Heap) (locs : List Loc) (ls : Array Slot), xR g (xD h) (sX I 4 Y) (xFh (hPl h 4 q)) n H → va_S (gA g) s.heap H locs → lv_has ls 8 [(0, .ref (ga g [0])), (1, .int (nI c)), (2, .int (b01 (sBeg I (nI c) b r))), (3, .int (nI r)), (4, .int (I [4, 0] r)), (5, .int (I [4, 1] r)), (6, .int (nI (sTim I r)))] → W P_ l e_ { frames := 6, cells := 0, slots := 0, locals := 129 } s m_ ([.ref (ga g [0]), .int (nI c)] : List Value).toArray bl_ mt_ cd_ H locs 0 0 (MQ bl_ (xQc g none (xR g (xD h) (sX I 4 (sRep h I (nI c) (false, (p, X)) jn).2.2) (xFh (hPl h 4 (sRep h I (nI c) (false, (p, X)) jn).2.1)) n)) ([.ref (ga g [0]), .int (nI c)] : List Value).toArray s 0 0 (gA g)) (F0 m_ 98 ls []) := by
                intro H locs ls  hH hS hl
                refine lv_iconst (v := 0) hx hb dX6_replay_98 (by decide) ?_
                refine lv_istore (lv' := [(7, .int 0), (0, .ref (ga g [0])), (1, .int (nI c)), (2, .int (b01 (sBeg I (nI c) b r))), (3, .int (nI r)), (4, .int (I [4, 0] r)), (5, .int (I [4, 1] r)), (6, .int (nI (sTim I r)))]) hx hb dX6_replay_99 hl (by decide) rfl (fun ls hl => ?_)
                have L101 : ∀ (fu : Nat) (k : Nat) (q2 : Nat) (Z : xX) (H : Heap) (locs : List Loc) (ls : Array Slot), (k ≤ sTim I r) → (sItr h I w (I [4, 2] r) (I [4, 3] r) k (q, Y) = (q2, Z)) → (xCh Z) → (k < sTim I r → sVal h w (I [4, 2] r) q2) → sTim I r - k < fu → xR g (xD h) (sX I 4 Z) (xFh (hPl h 4 q2)) n H → va_S (gA g) s.heap H locs → lv_has ls 8 [(0, .ref (ga g [0])), (1, .int (nI c)), (2, .int (b01 (sBeg I (nI c) b r))), (3, .int (nI r)), (4, .int (I [4, 0] r)), (5, .int (I [4, 1] r)), (6, .int (nI (sTim I r))), (7, .int (nI k))] → W P_ l e_ { frames := 6, cells := 0, slots := 0, locals := 129 } s m_ ([.ref (ga g [0]), .int (nI c)] : List Value).toArray bl_ mt_ cd_ H locs 0 0 (MQ bl_ (xQc g none (xR g (xD h) (sX I 4 (sRep h I (nI c) (false, (p, X)) jn).2.2) (xFh (hPl h 4 (sRep h I (nI c) (false, (p, X)) jn).2.1)) n)) ([.ref (ga g [0]), .int (nI c)] : List Value).toArray s 0 0 (gA g)) (F0 m_ 101 ls []) := by
                  intro fu
                  induction fu with
                  | zero => intro k q2 Z H locs ls hk1 hI2 hcz hvk hfu; exact absurd hfu (Nat.not_lt_zero _)
                  | succ fu ih101 =>
                    intro k q2 Z H locs ls hk1 hI2 hcz hvk hfu hH hS hl
                    refine lv_iload hx hb dX6_replay_101 (lv_at hl 7 rfl) ?_
                    refine lv_iload hx hb dX6_replay_103 (lv_at hl 6 rfl) ?_
                    refine lv_icmp_ge (tgt := 142) hx hb dX6_replay_105 (by decide) (fun c_105 => ?_) (fun c_105 => ?_)
                    · skip
                      have c_105 := (nI_leI (a := (sTim I r)) (b := k) (by omega) (by omega)).mp c_105
                      refine lv_iinc (v := (nI (r + 1))) (lv' := [(3, .int (nI (r + 1))), (0, .ref (ga g [0])), (1, .int (nI c)), (2, .int (b01 (sBeg I (nI c) b r))), (4, .int (I [4, 0] r)), (5, .int (I [4, 1] r)), (6, .int (nI (sTim I r))), (7, .int (nI k))]) hx hb dX6_replay_142 hl (k := 3) rfl (by first | rfl | exact nI_1 _ | exact nI_add _ _) (by decide) rfl (fun ls hl => ?_)
                      refine lv_goto (tgt := 4) hx hb dX6_replay_145 (by decide) ?_
                      exact ih4 (r + 1) ((sBeg I (nI c) b r)) q2 Z _ _ _ (by omega) (by show (if _ then _ else _) = _; rw [hR]; rw [if_pos ⟨hb1, hw1⟩]; rw [show sTim I r = k by omega, hcw, hI2]) hcz (by omega) hH hS (lv_sub hl [1, 2, 3, 0] rfl)
                    · skip
                      have c_105 : ¬ _ := fun z_ => c_105 ((nI_leI (a := (sTim I r)) (b := k) (by omega) (by omega)).mpr z_)
                      refine lv_aload_n hx hb dX6_replay_108 rfl (lv_at hl 0 rfl) ?_
                      refine lv_aload_n hx hb dX6_replay_109 rfl (lv_at hl 0 rfl) ?_
                      refine x_get (C := RX6) (T := TX6) (N := 6) (ci := 6) hx hb hts iu6 hown hK hH (id := [0]) (by first | trivial | (simp only [xD]; omega) | (simp [xD]; done) | (simp [xD]; omega)) rfl rfl (by decide) 5 (by decide) (hts _ tw136) (fun _ h9 => h9) rfl (v := .ref (ga g [11, 4, 0])) rfl dX6_replay_110 ?_
                      refine lv_iload hx hb dX6_replay_113 (lv_at hl 5 rfl) ?_
                      refine lv_aload_n hx hb dX6_replay_115 rfl (lv_at hl 0 rfl) ?_
                      refine x_get (C := RX6) (T := TX6) (N := 6) (ci := 6) hx hb hts iu6 hown hK hH (id := [0]) (by first | trivial | (simp only [xD]; omega) | (simp [xD]; done) | (simp [xD]; omega)) rfl rfl (by decide) 4 (by decide) (hts _ tw135) (fun _ h9 => h9) rfl (v := .ref (ga g [3])) rfl dX6_replay_116 ?_
                      refine x_get (C := RX3) (T := TX3) (N := 5) (ci := 3) hx hb hts iu3 hown hK hH (id := [3]) (by first | trivial | (simp only [xD]; omega) | (simp [xD]; done) | (simp [xD]; omega)) rfl rfl (by decide) 2 (by decide) (hts _ tw44) (fun _ h9 => h9) rfl (v := .ref (ga g [4, 2])) rfl dX6_replay_119 ?_
                      refine lv_iload_n hx hb dX6_replay_122 rfl (lv_at hl 3 rfl) ?_
                      refine x_iald hx hb hK hH (id := [4, 2]) (by first | trivial | (simp only [xD]; omega) | (simp [xD]; done) | (simp [xD]; omega)) (L := 512) rfl rfl r rfl (by omega) (by decide) dX6_replay_123 ?_
                      refine lv_aload_n hx hb dX6_replay_124 rfl (lv_at hl 0 rfl) ?_
                      refine x_get (C := RX6) (T := TX6) (N := 6) (ci := 6) hx hb hts iu6 hown hK hH (id := [0]) (by first | trivial | (simp only [xD]; omega) | (simp [xD]; done) | (simp [xD]; omega)) rfl rfl (by decide) 4 (by decide) (hts _ tw135) (fun _ h9 => h9) rfl (v := .ref (ga g [3])) rfl dX6_replay_125 ?_
                      refine x_get (C := RX3) (T := TX3) (N := 5) (ci := 3) hx hb hts iu3 hown hK hH (id := [3]) (by first | trivial | (simp only [xD]; omega) | (simp [xD]; done) | (simp [xD]; omega)) rfl rfl (by decide) 3 (by decide) (hts _ tw46) (fun _ h9 => h9) rfl (v := .ref (ga g [4, 3])) rfl dX6_replay_128 ?_
                      refine lv_iload_n hx hb dX6_replay_131 rfl (lv_at hl 3 rfl) ?_
                      refine x_iald hx hb hK hH (id := [4, 3]) (by first | trivial | (simp only [xD]; omega) | (simp [xD]; done) | (simp [xD]; omega)) (L := 512) rfl rfl r rfl (by omega) (by decide) dX6_replay_132 ?_
                      refine x_V0 hx hb hml hown hE hS hl.1 cyX6_letHappen tw492 (c_X6_letHappen l g (hPl h 4 q2) I n 4 Z (Or.inr rfl) q2 (show (if 4 = 4 then q2 else sPl h 4) = q2 from if_pos rfl) hW w hw7 (I [4, 1] r) (I [4, 2] r) (I [4, 3] r) hw0 (hvk (by omega)) hcz) ⟨Nat.le_of_ble_eq_true rfl, Nat.le_of_ble_eq_true rfl⟩ ⟨Nat.le_of_ble_eq_true rfl, Nat.le_of_ble_eq_true rfl⟩ (x_recv hK hH (id := [0]) (by first | trivial | (simp only [xD]; omega) | (simp [xD]; done) | (simp [xD]; omega)) (ci := 6) rfl (by decide) rfl) hH rfl rfl (Nat.le_of_ble_eq_true rfl) dX6_replay_133 (fun H locs hH hS => ?_)
                      rw [hPl_hPl] at hH
                      refine lv_iinc (v := (nI (k + 1))) (lv' := [(7, .int (nI (k + 1))), (0, .ref (ga g [0])), (1, .int (nI c)), (2, .int (b01 (sBeg I (nI c) b r))), (3, .int (nI r)), (4, .int (I [4, 0] r)), (5, .int (I [4, 1] r)), (6, .int (nI (sTim I r)))]) hx hb dX6_replay_136 hl (k := 7) rfl (by first | rfl | exact nI_1 _ | exact nI_add _ _) (by decide) rfl (fun ls hl => ?_)
                      refine lv_goto (tgt := 101) hx hb dX6_replay_139 (by decide) ?_
                      exact ih101 (k + 1) ((sHap h I w (I [4, 2] r) (I [4, 3] r) (q2, Z)).1) ((sHap h I w (I [4, 2] r) (I [4, 3] r) (q2, Z)).2) _ _ _ (by omega) (by show sHap _ _ _ _ _ (sItr _ _ _ _ _ _ _) = _; rw [hI2]) (xCh.hap (s := (q2, Z)) hcz) (fun z_ => by have e9 := (sVal_p (I := I) (y := I [4, 3] r) (s := (q2, Z)) hW.1 (hvk (by omega)) hw7).2; rcases e9 with e9 | e9 | e9; (rw [e9]; exact hvk (by omega)); (have := hT0 e9; omega); (have := hT6 e9; omega)) (by omega) hH hS (lv_sub hl [1, 2, 3, 4, 5, 6, 7, 0] rfl)
                exact L101 _ 0 q Y _ _ _ (by omega) rfl hcy (fun _ => hvl) (Nat.lt_succ_self _) hH hS (lv_sub hl [1, 2, 3, 4, 5, 6, 7, 0] rfl)
              refine lv_bipush (v := 7) hx hb dX6_replay_78 (by decide) ?_
              refine lv_icmp_ne (tgt := 95) hx hb dX6_replay_80 (by decide) (fun c_80 => ?_) (fun c_80 => ?_)
              · skip
                skip
                refine lv_iconst (v := 1) hx hb dX6_replay_95 (by decide) ?_
                refine lv_istore (lv' := [(6, .int 1), (0, .ref (ga g [0])), (1, .int (nI c)), (2, .int (b01 (sBeg I (nI c) b r))), (3, .int (nI r)), (4, .int (I [4, 0] r)), (5, .int (I [4, 1] r))]) hx hb dX6_replay_96 hl (by decide) rfl (fun ls hl => ?_)
                exact J98 _ _ _  hH hS (lv_sub hl [1, 2, 3, 4, 5, 6, 0] (by rw [sTim_1 c_80]; rfl))
              · skip
                obtain ⟨d, hd0, hd1⟩ := hwd (by have := nI_eq (a := w) (b := 7) (by omega) (by omega); exact this.mp (hw0.symm.trans c_80))
                refine lv_aload_n hx hb dX6_replay_83 rfl (lv_at hl 0 rfl) ?_
                refine x_get (C := RX6) (T := TX6) (N := 6) (ci := 6) hx hb hts iu6 hown hK hH (id := [0]) (by first | trivial | (simp only [xD]; omega) | (simp [xD]; done) | (simp [xD]; omega)) rfl rfl (by decide) 4 (by decide) (hts _ tw135) (fun _ h9 => h9) rfl (v := .ref (ga g [3])) rfl dX6_replay_84 ?_
                refine x_get (C := RX3) (T := TX3) (N := 5) (ci := 3) hx hb hts iu3 hown hK hH (id := [3]) (by first | trivial | (simp only [xD]; omega) | (simp [xD]; done) | (simp [xD]; omega)) rfl rfl (by decide) 2 (by decide) (hts _ tw44) (fun _ h9 => h9) rfl (v := .ref (ga g [4, 2])) rfl dX6_replay_87 ?_
                refine lv_iload_n hx hb dX6_replay_90 rfl (lv_at hl 3 rfl) ?_
                refine x_iald hx hb hK hH (id := [4, 2]) (by first | trivial | (simp only [xD]; omega) | (simp [xD]; done) | (simp [xD]; omega)) (L := 512) rfl rfl r rfl (by omega) (by decide) dX6_replay_91 ?_
                refine lv_goto (tgt := 96) hx hb dX6_replay_92 (by decide) ?_
                refine lv_istore (lv' := [(6, .int (I [4, 2] r)), (0, .ref (ga g [0])), (1, .int (nI c)), (2, .int (b01 (sBeg I (nI c) b r))), (3, .int (nI r)), (4, .int (I [4, 0] r)), (5, .int (I [4, 1] r))]) hx hb dX6_replay_96 hl (by decide) rfl (fun ls hl => ?_)
                exact J98 _ _ _  hH hS (lv_sub hl [1, 2, 3, 4, 5, 6, 0] (by rw [sTim_7 c_80 hd1 hd0, ← hd1]; rfl))
            refine lv_iload hx hb dX6_replay_61 (lv_at hl 4 rfl) ?_
            refine lv_iload_n hx hb dX6_replay_63 rfl (lv_at hl 1 rfl) ?_
            refine lv_icmp_eq (tgt := 76) hx hb dX6_replay_64 (by decide) (fun c_64 => ?_) (fun c_64 => ?_)
            · skip
              exact J76 _ _ (Or.inl c_64) hH hS
            · skip
              refine lv_iload hx hb dX6_replay_67 (lv_at hl 4 rfl) ?_
              refine lv_iconst (v := (-1)) hx hb dX6_replay_69 (by decide) ?_
              refine lv_icmp_eq (tgt := 76) hx hb dX6_replay_70 (by decide) (fun c_70 => ?_) (fun c_70 => ?_)
              · skip
                exact J76 _ _ (Or.inr c_70) hH hS
              · skip
                refine lv_goto (tgt := 142) hx hb dX6_replay_73 (by decide) ?_
                refine lv_iinc (v := (nI (r + 1))) (lv' := [(3, .int (nI (r + 1))), (0, .ref (ga g [0])), (1, .int (nI c)), (2, .int (b01 (sBeg I (nI c) b r))), (4, .int (I [4, 0] r)), (5, .int (I [4, 1] r))]) hx hb dX6_replay_142 hl (k := 3) rfl (by first | rfl | exact nI_1 _ | exact nI_add _ _) (by decide) rfl (fun ls hl => ?_)
                refine lv_goto (tgt := 4) hx hb dX6_replay_145 (by decide) ?_
                exact ih4 (r + 1) ((sBeg I (nI c) b r)) q Y _ _ _ (by omega) (by show (if _ then _ else _) = _; rw [hR]; exact if_neg (fun z_ => z_.2.elim c_64 c_70)) hcy (by omega) hH hS (lv_sub hl [1, 2, 3, 0] rfl)
        refine lv_iload hx hb dX6_replay_44 (lv_at hl 1 rfl) ?_
        refine lv_iload_n hx hb dX6_replay_46 rfl (lv_at hl 3 rfl) ?_
        refine lv_icmp_ne (tgt := 57) hx hb dX6_replay_47 (by decide) (fun c_47 => ?_) (fun c_47 => ?_)
        · skip
          exact J57 _ _ _  hH hS (lv_sub hl [2, 3, 4, 5, 1, 0] (by first | rfl | (show lv_pick _ _ = _; simp only [lv_pick, List.filterMap_cons, List.filterMap_nil]; simp [sBeg, b01, *])))
        · skip
          refine lv_iload hx hb dX6_replay_50 (lv_at hl 0 rfl) ?_
          refine lv_if_ne (tgt := 57) hx hb dX6_replay_52 (by decide) (fun c_52 => ?_) (fun c_52 => ?_)
          · skip
            exact J57 _ _ _  hH hS (lv_sub hl [2, 3, 4, 5, 1, 0] (by first | rfl | (show lv_pick _ _ = _; simp only [lv_pick, List.filterMap_cons, List.filterMap_nil]; simp [sBeg, b01, *])))
          · skip
            refine lv_iconst (v := 1) hx hb dX6_replay_55 (by decide) ?_
            refine lv_istore_n (lv' := [(2, .int 1), (5, .int (I [4, 1] r)), (4, .int (I [4, 0] r)), (0, .ref (ga g [0])), (1, .int (nI c)), (3, .int (nI r))]) hx hb dX6_replay_56 rfl hl (by decide) rfl (fun ls hl => ?_)
            exact J57 _ _ _  hH hS (lv_sub hl [3, 4, 0, 5, 2, 1] (by first | rfl | (show lv_pick _ _ = _; simp only [lv_pick, List.filterMap_cons, List.filterMap_nil]; simp [sBeg, b01, *])))
  exact L4 _ 0 false p X _ _ _ (by omega) rfl hch (Nat.lt_succ_self _) hH hS (lv_sub hl [2, 3, 1, 0] rfl)
