/-! CONTRACTS: the model, days -/
/-- ids whose rows say what the plans are, the model's rows of cases apart -/
def pL (id : List Nat) : Bool := match id with
  | [5, _] => true
  | [7, _, _] => true
  | [8, _, _, _] => true
  | [10, _, _, _, _] => true
  | [22, f, _] => decide (f < 4)
  | [23, _, _, _] => true
  | [24, 8] => true
  | _ => false
theorem vP_sameL {I J : xI} (h : ∀ id, pL id = true → J id = I id) (p : Nat) : vP J p = vP I p := funext fun j => h [7, p, j] rfl
theorem vC_sameL {I J : xI} (h : ∀ id, pL id = true → J id = I id) (p : Nat) : vC J p = vC I p := funext fun j => funext fun w => funext fun k => h [10, p, j, w, k] rfl
theorem mA.sameL {h : xS} {I J : xI} {p : Nat} (hA : mA h I p) (e : ∀ id, pL id = true → J id = I id) : mA h J p := by
  have e0 : J [22, 0, p] = I [22, 0, p] := e _ rfl
  have e1 : J [22, 1, p] = I [22, 1, p] := e _ rfl
  have e2 : J [22, 2, p] = I [22, 2, p] := e _ rfl
  have e3 : J [22, 3, p] = I [22, 3, p] := e _ rfl
  have e23 : ∀ a b d, J [23, a, b, d] = I [23, a, b, d] := fun a b d => e _ rfl
  have e7 : ∀ a b, J [7, a, b] = I [7, a, b] := fun a b => e _ rfl
  have e10 : ∀ a b d k, J [10, a, b, d, k] = I [10, a, b, d, k] := fun a b d k => e _ rfl
  have e8 : J [24, 8] = I [24, 8] := e _ rfl
  unfold mA mS at *
  simp only [e0, e1, e2, e3, e23, e7, e10, e8]
  exact hA
theorem xWp.sameL {h : xS} {I J : xI} {p : Nat} (hW : xWp h I p) (e : ∀ id, pL id = true → J id = I id) : xWp h J p := by
  have e7 : ∀ a b, J [7, a, b] = I [7, a, b] := fun a b => e _ rfl
  have e10 : ∀ a b d k, J [10, a, b, d, k] = I [10, a, b, d, k] := fun a b d k => e _ rfl
  have e8 : ∀ a b d, J [8, a, b, d] = I [8, a, b, d] := fun a b d => e _ rfl
  have e5 : J [5, p] = I [5, p] := e _ rfl
  unfold xWp xWs at *
  simp only [e7, e10, e8, e5]
  exact hW
/-- the model's rows for all cases -/
def mWs (I : xI) (nc : Nat) (Xf : Nat → xX) (id : List Nat) : Nat → Int32 := match id with
  | [22, 12, d] => fun k => if d < nc then Xf d 1 k else I [22, 12, d] k
  | [22, 14, d] => fun k => if d < nc then Xf d 2 k else I [22, 14, d] k
  | [22, 15, d] => fun k => if d < nc then Xf d 4 k else I [22, 15, d] k
  | [22, 16, d] => fun k => if d < nc then Xf d 5 k else I [22, 16, d] k
  | [24, 17] => fun k => if k < nc then Xf k 0 6 else I [24, 17] k
  | [24, 13] => fun k => if k < nc then Xf k 0 7 else I [24, 13] k
  | [24, 18] => fun k => if k < nc then Xf k 0 9 else I [24, 18] k
  | [24, 19] => fun k => if k < nc then Xf k 0 10 else I [24, 19] k
  | id => I id
def mIt (id : List Nat) : Bool := match id with
  | [22, 12, _] => true
  | [22, 14, _] => true
  | [22, 15, _] => true
  | [22, 16, _] => true
  | [24, 17] => true
  | [24, 13] => true
  | [24, 18] => true
  | [24, 19] => true
  | _ => false
set_option maxHeartbeats 1000000 in
theorem mWs_no (I : xI) (nc : Nat) (Xf : Nat → xX) {id : List Nat} (h : mIt id = false) : mWs I nc Xf id = I id := by
  unfold mIt at h
  unfold mWs
  split at h <;> first | contradiction | rfl | (split <;> first | rfl | (exfalso; simp_all; done))
theorem pL_mIt {id : List Nat} (h : pL id = true) : mIt id = false := by
  unfold pL at h
  unfold mIt
  split <;> first | rfl | (exfalso; simp at h; done) | (exfalso; exact absurd h (by decide))
set_option maxHeartbeats 1000000 in
theorem mWs_put (I : xI) {nc : Nat} (Xf : Nat → xX) {c : Nat} (X : xX) (hc : c < nc) (h8 : X 0 8 = I [20] 21) : mW (mWs I nc Xf) c X = mWs I nc (fun d => if d = c then X else Xf d) := by
  funext id q
  unfold mW
  split
  · rename_i d
    by_cases e : d = c
    · subst e; simp [mWs, hc]
    · simp [mWs, e]
  · rename_i d
    by_cases e : d = c
    · subst e; simp [mWs, hc]
    · simp [mWs, e]
  · rename_i d
    by_cases e : d = c
    · subst e; simp [mWs, hc]
    · simp [mWs, e]
  · rename_i d
    by_cases e : d = c
    · subst e; simp [mWs, hc]
    · simp [mWs, e]
  · by_cases e : q = c
    · subst e; simp [mWs, hc]
    · simp [mWs, e]
  · by_cases e : q = c
    · subst e; simp [mWs, hc]
    · simp [mWs, e]
  · by_cases e : q = c
    · subst e; simp [mWs, hc]
    · simp [mWs, e]
  · by_cases e : q = c
    · subst e; simp [mWs, hc]
    · simp [mWs, e]
  · by_cases e : q = 21
    · subst e; simp [mWs, h8]
    · simp [mWs, e]
  · rename_i n1 n2 n3 n4 n5 n6 n7 n8 n9
    have h0 : mIt id = false := by
      unfold mIt
      split <;> first | rfl | (exfalso; simp_all; done)
    rw [mWs_no _ _ _ h0, mWs_no _ _ _ h0]
theorem mWs_congr (I : xI) {nc : Nat} {Xf Yf : Nat → xX} (h : ∀ c, c < nc → Xf c = Yf c) : mWs I nc Xf = mWs I nc Yf := by
  funext id q
  unfold mWs
  split <;> first
    | (rename_i d; by_cases hd : d < nc
       · simp only [if_pos hd, h d hd]
       · simp only [if_neg hd])
    | (by_cases hd : q < nc
       · simp only [if_pos hd, h q hd]
       · simp only [if_neg hd])
    | rfl
theorem mWs_get (I : xI) {nc : Nat} (Xf : Nat → xX) {c : Nat} (hc : c < nc) (h8 : Xf c 0 8 = I [20] 21) : mWs I nc Xf = mW (mWs I nc Xf) c (Xf c) := by
  rw [mWs_put I Xf (Xf c) hc h8]
  refine mWs_congr I (fun d _ => ?_)
  by_cases e : d = c
  · rw [if_pos e, e]
  · rw [if_neg e]
theorem mWs_pL {I J : xI} {nc : Nat} {Xf : Nat → xX} (e : ∀ id, pL id = true → J id = I id) : ∀ id, pL id = true → mWs J nc Xf id = I id := fun id h => (mWs_no J nc Xf (pL_mIt h)).trans (e id h)
/-- a day of a case: its steps below i are older -/
def mOl (P : Nat → Nat → Int32) (X : xX) (i : Nat) : xX := fun f => if f = 4 then (fun k => if k < i ∧ X 0 7 = 0 ∧ sAct P X k = true then X 4 k + 1 else X 4 k) else X f
theorem mOl_0 (P : Nat → Nat → Int32) (X : xX) : mOl P X 0 = X := by
  funext f; unfold mOl
  split
  · rename_i e; subst e; funext k; exact if_neg (fun z => absurd z.1 (by omega))
  · rfl
theorem mOl_at (P : Nat → Nat → Int32) (X : xX) (k : Nat) : mOl P X k 4 k = X 4 k := if_neg (fun z => absurd z.1 (by omega))
theorem mOl_s (P : Nat → Nat → Int32) (X : xX) (i : Nat) : up2 (mOl P X i) 4 i (mOl P X (i + 1) 4 i) = mOl P X (i + 1) := by
  funext f k
  unfold up2
  by_cases a : f = 4 ∧ k = i
  · rw [if_pos a, a.1, a.2]
  · rw [if_neg a]
    by_cases b : f = 4
    · subst b
      show (if k < i ∧ _ then _ else _) = (if k < i + 1 ∧ _ then _ else _)
      by_cases d : k < i
      · by_cases e : X 0 7 = 0 ∧ sAct P X k = true
        · rw [if_pos ⟨d, e⟩, if_pos ⟨by omega, e⟩]
        · rw [if_neg (fun z => e z.2), if_neg (fun z => e z.2)]
      · rw [if_neg (fun z => d z.1), if_neg (fun z => a ⟨rfl, by have := z.1; omega⟩)]
    · show (if f = 4 then _ else X f) k = (if f = 4 then _ else X f) k
      rw [if_neg b, if_neg b]
theorem mOl_old {P : Nat → Nat → Int32} {n : Nat} (X : xX) (h8 : n ≤ 8) : up2 (mOl P X n) 0 6 (X 0 6 + 1) = sOld P n X := by
  funext f k
  unfold sOld
  by_cases b : f = 4
  · subst b
    rw [up2_f _ _ _ (by decide)]
    show (if k < n ∧ X 0 7 = 0 ∧ sAct P X k = true then X 4 k + 1 else X 4 k) = _
    by_cases w : X 0 7 = 0
    · rw [if_pos w]
      show _ = if 4 = 4 ∧ k < 8 ∧ k < n ∧ sAct P X k = true then X 4 k + 1 else up2 X 0 6 (X 0 6 + 1) 4 k
      rw [up2_f _ _ _ (by decide)]
      by_cases e : k < n ∧ sAct P X k = true
      · rw [if_pos ⟨e.1, w, e.2⟩, if_pos ⟨rfl, by omega, e⟩]
      · rw [if_neg (fun z => e ⟨z.1, z.2.2⟩), if_neg (fun z => e z.2.2)]
    · rw [if_neg w, if_neg (fun z => w z.2.1), up2_f _ _ _ (by decide)]
  · have h1 : up2 (mOl P X n) 0 6 (X 0 6 + 1) f k = up2 X 0 6 (X 0 6 + 1) f k := by
      unfold up2
      split
      · rfl
      · show (if f = 4 then _ else X f) k = X f k
        rw [if_neg b]
    rw [h1]
    split
    · exact (if_neg (fun z => b z.1)).symm
    · rfl
/-- in the midst of the day t: the cases ahead of i have had it -/
def mPas (h : xS) (I : xI) (Xf : Nat → xX) (t i : Nat) : Nat → xX := fun c => if c < i then (sItr h I 7 0 0 (t + 1) (sPl h c, Xf c)).2 else (sItr h I 7 0 0 t (sPl h c, Xf c)).2
theorem mPas_at (h : xS) (I : xI) (Xf : Nat → xX) (t i : Nat) : mPas h I Xf t i i = (sItr h I 7 0 0 t (sPl h i, Xf i)).2 := if_neg (by omega)
theorem mPas_s (h : xS) (I : xI) (Xf : Nat → xX) (t i : Nat) : (fun d => if d = i then sTl h I (sPl h i) (sOld (vP I (sPl h i)) (sSz h (sPl h i)) (sItr h I 7 0 0 t (sPl h i, Xf i)).2) else mPas h I Xf t i d) = mPas h I Xf t (i + 1) := by
  funext d
  by_cases e : d = i
  · subst e
    rw [if_pos rfl]
    unfold mPas
    rw [if_pos (by omega)]
    show _ = sTl h I (sItr h I 7 0 0 t (sPl h d, Xf d)).1 (sOld (vP I (sItr h I 7 0 0 t (sPl h d, Xf d)).1) (sSz h (sItr h I 7 0 0 t (sPl h d, Xf d)).1) (sItr h I 7 0 0 t (sPl h d, Xf d)).2)
    rw [sItr7_1]
  · rw [if_neg e]
    unfold mPas
    by_cases e2 : d < i
    · rw [if_pos e2, if_pos (by omega)]
    · rw [if_neg e2, if_neg (by omega)]
theorem mPas_t (h : xS) (I J : xI) (Xf : Nat → xX) (t m : Nat) : mWs J m (mPas h I Xf t m) = mWs J m (mPas h I Xf (t + 1) 0) := mWs_congr J (fun c hc => by unfold mPas; rw [if_pos hc, if_neg (by omega)])
theorem mPas_0 (h : xS) (I : xI) (Xf : Nat → xX) : mPas h I Xf 0 0 = Xf := by funext c; exact if_neg (by omega)
theorem sTail_8 (P : Nat → Nat → Int32) (C : Nat → Nat → Nat → Nat → Int32) (cn : Nat → Nat → Nat) (n : Nat) (X : xX) : sTail P C cn n X 0 8 = -1 := up2_at _ _ _ _
theorem sItr_ev {h : xS} {I : xI} {p : Nat} {X : xX} (hX : X 0 8 = -1) : ∀ t, (sItr h I 7 0 0 t (p, X)).2 0 8 = -1
  | 0 => hX
  | t + 1 => by
    show sTail (vP I (sItr h I 7 0 0 t (p, X)).1) (vC I (sItr h I 7 0 0 t (p, X)).1) (sCn h (sItr h I 7 0 0 t (p, X)).1) (sSz h (sItr h I 7 0 0 t (p, X)).1) (sOld (vP I (sItr h I 7 0 0 t (p, X)).1) (sSz h (sItr h I 7 0 0 t (p, X)).1) (sItr h I 7 0 0 t (p, X)).2) 0 8 = -1
    exact sTail_8 _ _ _ _ _
def mLa (P : Nat → Nat → Int32) (X : xX) : Nat → Nat
  | 0 => 0
  | i + 1 => mLa P X i + if mLt P X i = true then 1 else 0
def mLas (h : xS) (I : xI) (Xf : Nat → xX) : Nat → Nat
  | 0 => 0
  | i + 1 => mLas h I Xf i + mLa (vP I (sPl h i)) (Xf i) (sSz h (sPl h i))
def mDay (h : xS) (I : xI) (Xf : Nat → xX) (d : Nat) : Nat → xX := fun c => (sItr h I 7 0 0 d (sPl h c, Xf c)).2
theorem mPas_d (h : xS) (I : xI) (Xf : Nat → xX) (d : Nat) : mPas h I Xf d 0 = mDay h I Xf d := by funext c; exact if_neg (by omega)
theorem mIn_d10 {d : Nat} (h1 : 1 ≤ d) (h2 : d ≤ 10) : mIn (nI d) 1 10 = true := by
  unfold mIn
  rw [show (1 : Int32) = nI 1 from rfl, show (10 : Int32) = nI 10 from rfl, decide_eq_true ((nI_leI (a := 1) (b := d) (by omega) (by omega)).mpr h1), decide_eq_true ((nI_leI (a := d) (b := 10) (by omega) (by omega)).mpr h2)]; rfl
theorem mWs_u20 (I : xI) (m : Nat) (Xf : Nat → xX) (k : Nat) (v : Int32) : up (mWs I m Xf) [20] k v = mWs (up I [20] k v) m Xf := by
  funext id q
  by_cases hi : mIt id = true
  · unfold mIt at hi
    split at hi <;> first | contradiction | (simp [up, mWs]; done)
  · have h0 : mIt id = false := by simpa using hi
    rw [mWs_no _ _ _ h0]
    unfold up
    by_cases e : id = [20] ∧ q = k
    · rw [if_pos e, if_pos e]
    · rw [if_neg e, if_neg e, mWs_no _ _ _ h0]
theorem mWs_20 (I : xI) (nc : Nat) (Xf : Nat → xX) : mWs I nc Xf [20] = I [20] := rfl
theorem mWs_11 (I : xI) (nc : Nat) (Xf : Nat → xX) : mWs I nc Xf [24, 11] = I [24, 11] := rfl
set_option maxHeartbeats 4000000 in
set_option maxRecDepth 100000 in
theorem c_X7_pass (l : Launch) (g : xG) (h : xS) (I : xI) (n : Nat) (m : Nat) (hm4 : m ≤ 4) (hm : I [20] 20 = nI m) (Xf : Nat → xX) (hev : ∀ c, c < m → Xf c 0 8 = -1) (he0 : I [20] 21 = -1) (hP : ∀ c, c < m → sPl h c < 3 ∧ I [24, 11] c = nI (sPl h c) ∧ mA h I (sPl h c) ∧ xWp h I (sPl h c)) (d : Nat) (hd1 : 1 ≤ d) (hd2 : d ≤ 10)  : xM l yX7_pass (xws yX7_pass cX7_pass 5 (some FieldType.int)) 19 437 g [.ref (ga g [20]), .int (nI d)] (xR g (xD h) (mWs I m Xf) (xFh h) n) (some (.int (nI (mLas h I (mDay h I Xf d) m)))) (xR g (xD h) (mWs (up I [20] 23 0) m (mDay h I Xf d)) (xFh h) n) 0 0 := by
  refine xM.of (by decide) (Nat.le_of_ble_eq_true rfl) ?_
  intro P_ e_ s m_ bl_ mt_ cd_ ls hx hb hr hown hlocks hml hnm hE hK hts hH hS hl
  have hl : lv_has ls 5 [(0, .ref (ga g [20])), (1, .int (nI d))] := hl
  refine lv_aload_n hx hb dX7_pass_0 rfl (lv_at hl 0 rfl) ?_
  refine lv_iload_n hx hb dX7_pass_1 rfl (lv_at hl 1 rfl) ?_
  refine lv_iconst (v := 1) hx hb dX7_pass_2 (by decide) ?_
  refine lv_bipush (v := 10) hx hb dX7_pass_3 (by decide) ?_
  refine x_S1 hx hb hml hown hE hS hl.1 cyX7_in tw933 (c_X7_in l g h (mWs I m Xf) n (nI d) 1 10) ⟨Nat.le_of_ble_eq_true rfl, Nat.le_of_ble_eq_true rfl⟩ ⟨Nat.le_of_ble_eq_true rfl, Nat.le_of_ble_eq_true rfl⟩ hH rfl rfl (Nat.le_of_ble_eq_true rfl) dX7_pass_5 (fun H locs hH hS => ?_)
  refine lv_if_eq (tgt := 15) hx hb dX7_pass_8 (by decide) (fun q_ => absurd q_ (fun z_ => by rw [mIn_d10 hd1 hd2] at z_; exact absurd z_ (by decide))) (fun _ => ?_)
  refine lv_iconst (v := 0) hx hb dX7_pass_11 (by decide) ?_
  refine lv_goto (tgt := 16) hx hb dX7_pass_12 (by decide) ?_
  obtain ⟨I1_, hI1_⟩ : ∃ z, z = up (mWs I m Xf) [20] 23 0 := ⟨_, rfl⟩
  refine x_put (C := RX7) (T := TX7) (N := 24) (ci := 7) hx hb hts iu7 tyX7 tyX7_ok nmX7 hown hK hH hS (id := [20]) (by first | trivial | (simp only [xD]; omega) | (simp [xD]; done) | (simp [xD]; omega)) rfl rfl (by decide) 23 (by decide) (hts _ tw862) (fun _ h9 => h9) (Or.inl rfl) (ty := .int) (v := .int 0) (by decide +kernel) rfl rfl (I' := I1_) (F' := (xFh h)) (fun i hi => by rw [hI1_]; exact up_id hi) (fun _ _ => rfl) (fun j9 => by rw [hI1_, up_row]; exact xv_upd (ci := 7) (k := 23) rfl j9) dX7_pass_16 (fun H locs hH hS => ?_)
  obtain ⟨T_, hT_⟩ : ∃ z, z = up I [20] 23 0 := ⟨_, rfl⟩
  rw [hI1_, mWs_u20, ← hT_] at hH
  refine lv_aload_n hx hb dX7_pass_19 rfl (lv_at hl 0 rfl) ?_
  refine x_get (C := RX7) (T := TX7) (N := 24) (ci := 7) hx hb hts iu7 hown hK hH (id := [20]) (by first | trivial | (simp only [xD]; omega) | (simp [xD]; done) | (simp [xD]; omega)) rfl rfl (by decide) 23 (by decide) (hts _ tw862) (fun _ h9 => h9) rfl (v := .int 0) (congrArg Value.int ((congrFun (mWs_20 _ _ _) 23).trans (by rw [hT_]; exact up_at))) dX7_pass_20 ?_
  refine lv_if_le (tgt := 28) hx hb dX7_pass_23 (by decide) (fun _ => ?_) (fun q_ => absurd (by decide) q_)
  refine lv_iconst (v := 0) hx hb dX7_pass_28 (by decide) ?_
  refine lv_istore_n (lv' := [(2, .int 0), (0, .ref (ga g [20])), (1, .int (nI d))]) hx hb dX7_pass_29 rfl hl (by decide) rfl (fun ls hl => ?_)
  have hsm : ∀ id, pL id = true → T_ id = I id := by rw [hT_]; intro id hi; exact up_id (fun e => by subst e; cases hi)
  have h20 : T_ [20] 20 = nI m := by rw [hT_, up_ne (by decide)]; exact hm
  have h21 : T_ [20] 21 = -1 := by rw [hT_, up_ne (by decide)]; exact he0
  have h11 : ∀ c, c < m → T_ [24, 11] c = nI (sPl h c) := fun c hc => by rw [hT_, up_id (by decide)]; exact (hP c hc).2.1
  rw [← mPas_0 h I Xf] at hH
  have L30 : ∀ (fu : Nat) (t : Nat) (H : Heap) (locs : List Loc) (ls : Array Slot), (t ≤ d) → d - t < fu → xR g (xD h) (mWs T_ m (mPas h I Xf t 0)) (xFh h) n H → va_S (gA g) s.heap H locs → lv_has ls 5 [(0, .ref (ga g [20])), (1, .int (nI d)), (2, .int (nI t))] → W P_ l e_ { frames := 19, cells := 0, slots := 0, locals := 437 } s m_ ([.ref (ga g [20]), .int (nI d)] : List Value).toArray bl_ mt_ cd_ H locs 0 0 (MQ bl_ (xQc g (some (.int (nI (mLas h I (mDay h I Xf d) m)))) (xR g (xD h) (mWs (up I [20] 23 0) m (mDay h I Xf d)) (xFh h) n)) ([.ref (ga g [20]), .int (nI d)] : List Value).toArray s 0 0 (gA g)) (F0 m_ 30 ls []) := by
    intro fu
    induction fu with
    | zero => intro t H locs ls ht hfu; exact absurd hfu (Nat.not_lt_zero _)
    | succ fu ih30 =>
      intro t H locs ls ht hfu hH hS hl
      refine lv_iload_n hx hb dX7_pass_30 rfl (lv_at hl 2 rfl) ?_
      refine lv_iload_n hx hb dX7_pass_31 rfl (lv_at hl 1 rfl) ?_
      refine lv_icmp_ge (tgt := 156) hx hb dX7_pass_32 (by decide) (fun c_32 => ?_) (fun c_32 => ?_)
      · skip
        have c_32 := (nI_leI (a := d) (b := t) (by omega) (by omega)).mp c_32
        rw [show t = d by omega, mPas_d] at hH
        refine lv_iconst (v := 0) hx hb dX7_pass_156 (by decide) ?_
        refine lv_istore_n (lv' := [(2, .int 0), (0, .ref (ga g [20])), (1, .int (nI d))]) hx hb dX7_pass_157 rfl hl (by decide) rfl (fun ls hl => ?_)
        refine lv_iconst (v := 0) hx hb dX7_pass_158 (by decide) ?_
        refine lv_istore_n (lv' := [(3, .int 0), (2, .int 0), (0, .ref (ga g [20])), (1, .int (nI d))]) hx hb dX7_pass_159 rfl hl (by decide) rfl (fun ls hl => ?_)
        have L160 : ∀ (fu : Nat) (i : Nat) (H : Heap) (locs : List Loc) (ls : Array Slot), (i ≤ m) → m - i < fu → xR g (xD h) (mWs T_ m (mDay h I Xf d)) (xFh h) n H → va_S (gA g) s.heap H locs → lv_has ls 5 [(0, .ref (ga g [20])), (1, .int (nI d)), (3, .int (nI i)), (2, .int (nI (mLas h I (mDay h I Xf d) i)))] → W P_ l e_ { frames := 19, cells := 0, slots := 0, locals := 437 } s m_ ([.ref (ga g [20]), .int (nI d)] : List Value).toArray bl_ mt_ cd_ H locs 0 0 (MQ bl_ (xQc g (some (.int (nI (mLas h I (mDay h I Xf d) m)))) (xR g (xD h) (mWs (up I [20] 23 0) m (mDay h I Xf d)) (xFh h) n)) ([.ref (ga g [20]), .int (nI d)] : List Value).toArray s 0 0 (gA g)) (F0 m_ 160 ls []) := by
          intro fu
          induction fu with
          | zero => intro i H locs ls hi hfu; exact absurd hfu (Nat.not_lt_zero _)
          | succ fu ih160 =>
            intro i H locs ls hi hfu hH hS hl
            refine lv_iload_n hx hb dX7_pass_160 rfl (lv_at hl 2 rfl) ?_
            refine lv_aload_n hx hb dX7_pass_161 rfl (lv_at hl 0 rfl) ?_
            refine x_get (C := RX7) (T := TX7) (N := 24) (ci := 7) hx hb hts iu7 hown hK hH (id := [20]) (by first | trivial | (simp only [xD]; omega) | (simp [xD]; done) | (simp [xD]; omega)) rfl rfl (by decide) 20 (by decide) (hts _ tw859) (fun _ h9 => h9) rfl (v := .int (nI m)) (congrArg Value.int ((congrFun (mWs_20 _ _ _) 20).trans h20)) dX7_pass_162 ?_
            refine lv_icmp_ge (tgt := 217) hx hb dX7_pass_165 (by decide) (fun c_165 => ?_) (fun c_165 => ?_)
            · skip
              have c_165 := (nI_leI (a := m) (b := i) (by omega) (by omega)).mp c_165
              refine lv_iload_n hx hb dX7_pass_217 rfl (lv_at hl 3 rfl) ?_
              exact x_iret hx hb hr hlocks hS dX7_pass_218 (by rw [show i = m by omega]) (by rw [hT_] at hH; exact hH)
            · skip
              have c_165 : ¬ _ := fun z_ => c_165 ((nI_leI (a := m) (b := i) (by omega) (by omega)).mpr z_)
              have him : i < m := by omega
              obtain ⟨hp3, hpoi, hAi, hWi⟩ := hP i him
              have h11i := h11 i him
              obtain ⟨J, hJ⟩ : ∃ z, z = (mWs T_ m (mDay h I Xf d)) := ⟨_, rfl⟩
              obtain ⟨Y, hY⟩ : ∃ z, z = (sItr h I 7 0 0 d (sPl h i, Xf i)).2 := ⟨_, rfl⟩
              have hY8 : Y 0 8 = -1 := by rw [hY]; exact sItr_ev (hev i him) _
              have hg : J = mW J i Y := by rw [hJ, hY]; exact (mWs_get T_ _ him (by rw [h21]; exact sItr_ev (hev i him) _)).trans (by rw [show mDay h I Xf d i = (sItr h I 7 0 0 d (sPl h i, Xf i)).2 from rfl])
              have hsmJ : ∀ id, pL id = true → J id = I id := by rw [hJ]; exact mWs_pL hsm
              have hAJ := hAi.sameL hsmJ
              have hWJ := hWi.sameL hsmJ
              have e1 := vP_sameL hsmJ (sPl h i)
              have e2 := vC_sameL hsmJ (sPl h i)
              have hpoJ : J [24, 11] i = nI (sPl h i) := by rw [hJ, mWs_11]; exact h11i
              have hJ20 : J [20] 20 = nI m := by rw [hJ, mWs_20]; exact h20
              obtain ⟨p, hp⟩ : ∃ z, z = sPl h i := ⟨_, rfl⟩
              rw [← hp] at hp3 hpoi hAi hWi h11i hAJ hWJ e1 e2 hpoJ
              have h8 := hWi.1
              rw [← hJ, hg] at hH
              refine lv_iconst (v := 0) hx hb dX7_pass_168 (by decide) ?_
              refine lv_istore (lv' := [(4, .int 0), (0, .ref (ga g [20])), (1, .int (nI d)), (3, .int (nI i)), (2, .int (nI (mLas h I (mDay h I Xf d) i)))]) hx hb dX7_pass_169 hl (by decide) rfl (fun ls hl => ?_)
              have L171 : ∀ (fu : Nat) (k : Nat) (H : Heap) (locs : List Loc) (ls : Array Slot), (k ≤ sSz h p) → sSz h p - k < fu → xR g (xD h) (mW J i Y) (xFh h) n H → va_S (gA g) s.heap H locs → lv_has ls 5 [(0, .ref (ga g [20])), (1, .int (nI d)), (3, .int (nI i)), (4, .int (nI k)), (2, .int (nI (mLas h I (mDay h I Xf d) i + mLa (vP I p) Y k)))] → W P_ l e_ { frames := 19, cells := 0, slots := 0, locals := 437 } s m_ ([.ref (ga g [20]), .int (nI d)] : List Value).toArray bl_ mt_ cd_ H locs 0 0 (MQ bl_ (xQc g (some (.int (nI (mLas h I (mDay h I Xf d) m)))) (xR g (xD h) (mWs (up I [20] 23 0) m (mDay h I Xf d)) (xFh h) n)) ([.ref (ga g [20]), .int (nI d)] : List Value).toArray s 0 0 (gA g)) (F0 m_ 171 ls []) := by
                intro fu
                induction fu with
                | zero => intro k H locs ls hk hfu; exact absurd hfu (Nat.not_lt_zero _)
                | succ fu ih171 =>
                  intro k H locs ls hk hfu hH hS hl
                  refine lv_iload hx hb dX7_pass_171 (lv_at hl 3 rfl) ?_
                  refine lv_aload_n hx hb dX7_pass_173 rfl (lv_at hl 0 rfl) ?_
                  refine x_get (C := RX7) (T := TX7) (N := 24) (ci := 7) hx hb hts iu7 hown hK hH (id := [20]) (by first | trivial | (simp only [xD]; omega) | (simp [xD]; done) | (simp [xD]; omega)) rfl rfl (by decide) 8 (by decide) (hts _ tw847) (fun _ h9 => h9) rfl (v := .ref (ga g [24, 8])) rfl dX7_pass_174 ?_
                  refine lv_aload_n hx hb dX7_pass_177 rfl (lv_at hl 0 rfl) ?_
                  refine x_get (C := RX7) (T := TX7) (N := 24) (ci := 7) hx hb hts iu7 hown hK hH (id := [20]) (by first | trivial | (simp only [xD]; omega) | (simp [xD]; done) | (simp [xD]; omega)) rfl rfl (by decide) 11 (by decide) (hts _ tw850) (fun _ h9 => h9) rfl (v := .ref (ga g [24, 11])) rfl dX7_pass_178 ?_
                  refine lv_iload_n hx hb dX7_pass_181 rfl (lv_at hl 2 rfl) ?_
                  refine x_iald hx hb hK hH (id := [24, 11]) (by first | trivial | (simp only [xD]; omega) | (simp [xD]; done) | (simp [xD]; omega)) (L := 4) rfl (r := (J [24, 11])) rfl i rfl (by omega) (by decide) dX7_pass_182 ?_
                  rw [show (J [24, 11] i) = (nI p) from hpoJ]
                  refine x_iald hx hb hK hH (id := [24, 8]) (by first | trivial | (simp only [xD]; omega) | (simp [xD]; done) | (simp [xD]; omega)) (L := 3) rfl (r := (J [24, 8])) rfl p rfl (by omega) (by decide) dX7_pass_183 ?_
                  rw [show (J [24, 8] p) = (nI (sSz h p)) from hAJ.1]
                  refine lv_icmp_ge (tgt := 211) hx hb dX7_pass_184 (by decide) (fun c_184 => ?_) (fun c_184 => ?_)
                  · skip
                    have c_184 := (nI_leI (a := (sSz h p)) (b := k) (by omega) (by omega)).mp c_184
                    rw [← hg, hJ] at hH
                    have hs9 : mLas h I (mDay h I Xf d) i + mLa (vP I p) Y k = mLas h I (mDay h I Xf d) (i + 1) := by rw [show k = sSz h p by omega, hY, hp]; rfl
                    rw [hs9] at hl
                    refine lv_iinc (v := (nI (i + 1))) (lv' := [(3, .int (nI (i + 1))), (0, .ref (ga g [20])), (1, .int (nI d)), (4, .int (nI k)), (2, .int (nI (mLas h I (mDay h I Xf d) (i + 1))))]) hx hb dX7_pass_211 hl (k := 2) rfl (by first | rfl | exact nI_1 _ | exact nI_add _ _) (by decide) rfl (fun ls hl => ?_)
                    refine lv_goto (tgt := 160) hx hb dX7_pass_214 (by decide) ?_
                    exact ih160 (i + 1) _ _ _ (by omega) (by omega) hH hS (lv_sub hl [1, 2, 0, 4] rfl)
                  · skip
                    have c_184 : ¬ _ := fun z_ => c_184 ((nI_leI (a := (sSz h p)) (b := k) (by omega) (by omega)).mpr z_)
                    refine lv_iload_n hx hb dX7_pass_187 rfl (lv_at hl 4 rfl) ?_
                    refine lv_aload_n hx hb dX7_pass_188 rfl (lv_at hl 0 rfl) ?_
                    refine lv_iload_n hx hb dX7_pass_189 rfl (lv_at hl 2 rfl) ?_
                    refine lv_iload hx hb dX7_pass_190 (lv_at hl 3 rfl) ?_
                    refine x_V1 hx hb hml hown hE hS hl.1 cyX7_isLateNow tw1052 (c_X7_isLateNow l g h J n i Y (by omega) p hp3 hpoJ hAJ hWJ k (by omega)) ⟨Nat.le_of_ble_eq_true rfl, Nat.le_of_ble_eq_true rfl⟩ ⟨Nat.le_of_ble_eq_true rfl, Nat.le_of_ble_eq_true rfl⟩ (x_recv hK hH (id := [20]) (by first | trivial | (simp only [xD]; omega) | (simp [xD]; done) | (simp [xD]; omega)) (ci := 7) rfl (by decide) rfl) hH rfl rfl (Nat.le_of_ble_eq_true rfl) dX7_pass_192 (fun H locs hH hS => ?_)
                    rw [e1]
                    refine lv_if_eq (tgt := 202) hx hb dX7_pass_195 (by decide) (fun c_195 => ?_) (fun c_195 => ?_)
                    · skip
                      refine lv_iconst (v := 0) hx hb dX7_pass_202 (by decide) ?_
                      refine lv_iadd hx hb dX7_pass_203 ?_
                      rw [show ((nI (mLas h I (mDay h I Xf d) i + mLa (vP I p) Y k)) + 0) = (nI (mLas h I (mDay h I Xf d) i + mLa (vP I p) Y (k + 1))) from (by show _ = nI (mLas h I (mDay h I Xf d) i + (mLa (vP I p) Y k + (if mLt (vP I p) Y k = true then 1 else 0))); rw [if_neg (fun z => by rw [(b01_eq0 _).mp c_195] at z; cases z)]; exact Int32.add_zero _)]
                      refine lv_istore_n (lv' := [(2, .int (nI (mLas h I (mDay h I Xf d) i + mLa (vP I p) Y (k + 1)))), (0, .ref (ga g [20])), (1, .int (nI d)), (3, .int (nI i)), (4, .int (nI k))]) hx hb dX7_pass_204 rfl hl (by decide) rfl (fun ls hl => ?_)
                      refine lv_iinc (v := (nI (k + 1))) (lv' := [(4, .int (nI (k + 1))), (2, .int (nI (mLas h I (mDay h I Xf d) i + mLa (vP I p) Y (k + 1)))), (0, .ref (ga g [20])), (1, .int (nI d)), (3, .int (nI i))]) hx hb dX7_pass_205 hl (k := 4) rfl (by first | rfl | exact nI_1 _ | exact nI_add _ _) (by decide) rfl (fun ls hl => ?_)
                      refine lv_goto (tgt := 171) hx hb dX7_pass_208 (by decide) ?_
                      exact ih171 (k + 1) _ _ _ (by omega) (by omega) hH hS (lv_sub hl [2, 3, 4, 0, 1] rfl)
                    · skip
                      refine lv_iconst (v := 1) hx hb dX7_pass_198 (by decide) ?_
                      refine lv_goto (tgt := 203) hx hb dX7_pass_199 (by decide) ?_
                      refine lv_iadd hx hb dX7_pass_203 ?_
                      rw [show ((nI (mLas h I (mDay h I Xf d) i + mLa (vP I p) Y k)) + 1) = (nI (mLas h I (mDay h I Xf d) i + mLa (vP I p) Y (k + 1))) from (by show _ = nI (mLas h I (mDay h I Xf d) i + (mLa (vP I p) Y k + (if mLt (vP I p) Y k = true then 1 else 0))); rw [if_pos (b01_ne0 c_195), ← Nat.add_assoc]; exact nI_1 _)]
                      refine lv_istore_n (lv' := [(2, .int (nI (mLas h I (mDay h I Xf d) i + mLa (vP I p) Y (k + 1)))), (0, .ref (ga g [20])), (1, .int (nI d)), (3, .int (nI i)), (4, .int (nI k))]) hx hb dX7_pass_204 rfl hl (by decide) rfl (fun ls hl => ?_)
                      refine lv_iinc (v := (nI (k + 1))) (lv' := [(4, .int (nI (k + 1))), (2, .int (nI (mLas h I (mDay h I Xf d) i + mLa (vP I p) Y (k + 1)))), (0, .ref (ga g [20])), (1, .int (nI d)), (3, .int (nI i))]) hx hb dX7_pass_205 hl (k := 4) rfl (by first | rfl | exact nI_1 _ | exact nI_add _ _) (by decide) rfl (fun ls hl => ?_)
                      refine lv_goto (tgt := 171) hx hb dX7_pass_208 (by decide) ?_
                      exact ih171 (k + 1) _ _ _ (by omega) (by omega) hH hS (lv_sub hl [2, 3, 4, 0, 1] rfl)
              exact L171 _ 0 _ _ _ (Nat.zero_le _) (Nat.lt_succ_self _) hH hS (lv_sub hl [1, 2, 3, 0, 4] rfl)
        exact L160 _ 0 _ _ _ (Nat.zero_le _) (Nat.lt_succ_self _) hH hS (lv_sub hl [2, 3, 0, 1] rfl)
      · skip
        have c_32 : ¬ _ := fun z_ => c_32 ((nI_leI (a := d) (b := t) (by omega) (by omega)).mpr z_)
        refine lv_iconst (v := 0) hx hb dX7_pass_35 (by decide) ?_
        refine lv_istore_n (lv' := [(3, .int 0), (0, .ref (ga g [20])), (1, .int (nI d)), (2, .int (nI t))]) hx hb dX7_pass_36 rfl hl (by decide) rfl (fun ls hl => ?_)
        have L37 : ∀ (fu : Nat) (i : Nat) (H : Heap) (locs : List Loc) (ls : Array Slot), (i ≤ m) → m - i < fu → xR g (xD h) (mWs T_ m (mPas h I Xf t i)) (xFh h) n H → va_S (gA g) s.heap H locs → lv_has ls 5 [(0, .ref (ga g [20])), (1, .int (nI d)), (2, .int (nI t)), (3, .int (nI i))] → W P_ l e_ { frames := 19, cells := 0, slots := 0, locals := 437 } s m_ ([.ref (ga g [20]), .int (nI d)] : List Value).toArray bl_ mt_ cd_ H locs 0 0 (MQ bl_ (xQc g (some (.int (nI (mLas h I (mDay h I Xf d) m)))) (xR g (xD h) (mWs (up I [20] 23 0) m (mDay h I Xf d)) (xFh h) n)) ([.ref (ga g [20]), .int (nI d)] : List Value).toArray s 0 0 (gA g)) (F0 m_ 37 ls []) := by
          intro fu
          induction fu with
          | zero => intro i H locs ls hi hfu; exact absurd hfu (Nat.not_lt_zero _)
          | succ fu ih37 =>
            intro i H locs ls hi hfu hH hS hl
            refine lv_iload_n hx hb dX7_pass_37 rfl (lv_at hl 3 rfl) ?_
            refine lv_aload_n hx hb dX7_pass_38 rfl (lv_at hl 0 rfl) ?_
            refine x_get (C := RX7) (T := TX7) (N := 24) (ci := 7) hx hb hts iu7 hown hK hH (id := [20]) (by first | trivial | (simp only [xD]; omega) | (simp [xD]; done) | (simp [xD]; omega)) rfl rfl (by decide) 20 (by decide) (hts _ tw859) (fun _ h9 => h9) rfl (v := .int (nI m)) (congrArg Value.int ((congrFun (mWs_20 _ _ _) 20).trans h20)) dX7_pass_39 ?_
            refine lv_icmp_ge (tgt := 150) hx hb dX7_pass_42 (by decide) (fun c_42 => ?_) (fun c_42 => ?_)
            · skip
              have c_42 := (nI_leI (a := m) (b := i) (by omega) (by omega)).mp c_42
              refine lv_iinc (v := (nI (t + 1))) (lv' := [(2, .int (nI (t + 1))), (0, .ref (ga g [20])), (1, .int (nI d)), (3, .int (nI i))]) hx hb dX7_pass_150 hl (k := 2) rfl (by first | rfl | exact nI_1 _ | exact nI_add _ _) (by decide) rfl (fun ls hl => ?_)
              refine lv_goto (tgt := 30) hx hb dX7_pass_153 (by decide) ?_
              rw [show i = m by omega, mPas_t] at hH
              exact ih30 (t + 1) _ _ _ (by omega) (by omega) hH hS (lv_sub hl [1, 2, 0] rfl)
            · skip
              have c_42 : ¬ _ := fun z_ => c_42 ((nI_leI (a := m) (b := i) (by omega) (by omega)).mpr z_)
              have him : i < m := by omega
              obtain ⟨hp3, hpoi, hAi, hWi⟩ := hP i him
              have h11i := h11 i him
              obtain ⟨J, hJ⟩ : ∃ z, z = (mWs T_ m (mPas h I Xf t i)) := ⟨_, rfl⟩
              obtain ⟨Y, hY⟩ : ∃ z, z = (sItr h I 7 0 0 t (sPl h i, Xf i)).2 := ⟨_, rfl⟩
              have hY8 : Y 0 8 = -1 := by rw [hY]; exact sItr_ev (hev i him) _
              have hg : J = mW J i Y := by rw [hJ, hY]; exact (mWs_get T_ _ him (by rw [mPas_at, h21]; exact sItr_ev (hev i him) _)).trans (by rw [mPas_at])
              have hsmJ : ∀ id, pL id = true → J id = I id := by rw [hJ]; exact mWs_pL hsm
              have hAJ := hAi.sameL hsmJ
              have hWJ := hWi.sameL hsmJ
              have e1 := vP_sameL hsmJ (sPl h i)
              have e2 := vC_sameL hsmJ (sPl h i)
              have hpoJ : J [24, 11] i = nI (sPl h i) := by rw [hJ, mWs_11]; exact h11i
              have hJ20 : J [20] 20 = nI m := by rw [hJ, mWs_20]; exact h20
              obtain ⟨p, hp⟩ : ∃ z, z = sPl h i := ⟨_, rfl⟩
              rw [← hp] at hp3 hpoi hAi hWi h11i hAJ hWJ e1 e2 hpoJ
              have h8 := hWi.1
              rw [← hJ, hg] at hH
              rw [← mOl_0 (vP I p) Y] at hH
              refine lv_iconst (v := 0) hx hb dX7_pass_45 (by decide) ?_
              refine lv_istore (lv' := [(4, .int 0), (0, .ref (ga g [20])), (1, .int (nI d)), (2, .int (nI t)), (3, .int (nI i))]) hx hb dX7_pass_46 hl (by decide) rfl (fun ls hl => ?_)
              have L48 : ∀ (fu : Nat) (k : Nat) (H : Heap) (locs : List Loc) (ls : Array Slot), (k ≤ sSz h p) → sSz h p - k < fu → xR g (xD h) (mW J i (mOl (vP I p) Y k)) (xFh h) n H → va_S (gA g) s.heap H locs → lv_has ls 5 [(0, .ref (ga g [20])), (1, .int (nI d)), (2, .int (nI t)), (3, .int (nI i)), (4, .int (nI k))] → W P_ l e_ { frames := 19, cells := 0, slots := 0, locals := 437 } s m_ ([.ref (ga g [20]), .int (nI d)] : List Value).toArray bl_ mt_ cd_ H locs 0 0 (MQ bl_ (xQc g (some (.int (nI (mLas h I (mDay h I Xf d) m)))) (xR g (xD h) (mWs (up I [20] 23 0) m (mDay h I Xf d)) (xFh h) n)) ([.ref (ga g [20]), .int (nI d)] : List Value).toArray s 0 0 (gA g)) (F0 m_ 48 ls []) := by
                intro fu
                induction fu with
                | zero => intro k H locs ls hk hfu; exact absurd hfu (Nat.not_lt_zero _)
                | succ fu ih48 =>
                  intro k H locs ls hk hfu hH hS hl
                  refine lv_iload hx hb dX7_pass_48 (lv_at hl 4 rfl) ?_
                  refine lv_aload_n hx hb dX7_pass_50 rfl (lv_at hl 0 rfl) ?_
                  refine x_get (C := RX7) (T := TX7) (N := 24) (ci := 7) hx hb hts iu7 hown hK hH (id := [20]) (by first | trivial | (simp only [xD]; omega) | (simp [xD]; done) | (simp [xD]; omega)) rfl rfl (by decide) 8 (by decide) (hts _ tw847) (fun _ h9 => h9) rfl (v := .ref (ga g [24, 8])) rfl dX7_pass_51 ?_
                  refine lv_aload_n hx hb dX7_pass_54 rfl (lv_at hl 0 rfl) ?_
                  refine x_get (C := RX7) (T := TX7) (N := 24) (ci := 7) hx hb hts iu7 hown hK hH (id := [20]) (by first | trivial | (simp only [xD]; omega) | (simp [xD]; done) | (simp [xD]; omega)) rfl rfl (by decide) 11 (by decide) (hts _ tw850) (fun _ h9 => h9) rfl (v := .ref (ga g [24, 11])) rfl dX7_pass_55 ?_
                  refine lv_iload_n hx hb dX7_pass_58 rfl (lv_at hl 3 rfl) ?_
                  refine x_iald hx hb hK hH (id := [24, 11]) (by first | trivial | (simp only [xD]; omega) | (simp [xD]; done) | (simp [xD]; omega)) (L := 4) rfl (r := (J [24, 11])) rfl i rfl (by omega) (by decide) dX7_pass_59 ?_
                  rw [show (J [24, 11] i) = (nI p) from hpoJ]
                  refine x_iald hx hb hK hH (id := [24, 8]) (by first | trivial | (simp only [xD]; omega) | (simp [xD]; done) | (simp [xD]; omega)) (L := 3) rfl (r := (J [24, 8])) rfl p rfl (by omega) (by decide) dX7_pass_60 ?_
                  rw [show (J [24, 8] p) = (nI (sSz h p)) from hAJ.1]
                  refine lv_icmp_ge (tgt := 129) hx hb dX7_pass_61 (by decide) (fun c_61 => ?_) (fun c_61 => ?_)
                  · skip
                    have c_61 := (nI_leI (a := (sSz h p)) (b := k) (by omega) (by omega)).mp c_61
                    refine lv_aload_n hx hb dX7_pass_129 rfl (lv_at hl 0 rfl) ?_
                    refine x_get (C := RX7) (T := TX7) (N := 24) (ci := 7) hx hb hts iu7 hown hK hH (id := [20]) (by first | trivial | (simp only [xD]; omega) | (simp [xD]; done) | (simp [xD]; omega)) rfl rfl (by decide) 17 (by decide) (hts _ tw856) (fun _ h9 => h9) rfl (v := .ref (ga g [24, 17])) rfl dX7_pass_130 ?_
                    refine lv_iload_n hx hb dX7_pass_133 rfl (lv_at hl 3 rfl) ?_
                    refine lv_dup2_11 hx hb dX7_pass_134 rfl rfl ?_
                    refine x_iald hx hb hK hH (id := [24, 17]) (by first | trivial | (simp only [xD]; omega) | (simp [xD]; done) | (simp [xD]; omega)) (L := 4) rfl (r := (mW J i (mOl (vP I p) Y k) [24, 17])) rfl i rfl (by omega) (by decide) dX7_pass_135 ?_
                    rw [show (mW J i (mOl (vP I p) Y k) [24, 17] i) = ((mOl (vP I p) Y k) 0 6) from mW_c6 _ _ _]
                    refine lv_iconst (v := 1) hx hb dX7_pass_136 (by decide) ?_
                    refine lv_iadd hx hb dX7_pass_137 ?_
                    obtain ⟨X2_, hX2_⟩ : ∃ z, z = up2 (mOl (vP I p) Y k) 0 6 (((mOl (vP I p) Y k) 0 6) + 1) := ⟨_, rfl⟩
                    refine x_iast hx hb hK hH hS (id := [24, 17]) (by first | trivial | (simp only [xD]; omega) | (simp [xD]; done) | (simp [xD]; omega)) (L := 4) rfl i rfl (by omega) (by decide) ((mW_u0_6 _ _ _ _).trans (congrArg (mW J i) hX2_.symm)) dX7_pass_138 (fun H locs hH hS => ?_)
                    refine lv_aload_n hx hb dX7_pass_139 rfl (lv_at hl 0 rfl) ?_
                    refine lv_iload_n hx hb dX7_pass_140 rfl (lv_at hl 3 rfl) ?_
                    refine x_V0 hx hb hml hown hE hS hl.1 cyX7_goes tw984 (c_X7_goes l g h J n i X2_ (by omega) p hp3 hpoJ hAJ hWJ) ⟨Nat.le_of_ble_eq_true rfl, Nat.le_of_ble_eq_true rfl⟩ ⟨Nat.le_of_ble_eq_true rfl, Nat.le_of_ble_eq_true rfl⟩ (x_recv hK hH (id := [20]) (by first | trivial | (simp only [xD]; omega) | (simp [xD]; done) | (simp [xD]; omega)) (ci := 7) rfl (by decide) rfl) hH rfl rfl (Nat.le_of_ble_eq_true rfl) dX7_pass_141 (fun H locs hH hS => ?_)
                    rw [e1, e2] at hH
                    rw [hJ, mWs_put T_ (mPas h I Xf t i) (sTail (vP I p) (vC I p) (sCn h p) (sSz h p) X2_) him (by rw [h21]; exact up2_at _ _ _ _), hX2_, show k = sSz h p by omega, show (mOl (vP I p) Y (sSz h p)) 0 6 = Y 0 6 from rfl, mOl_old _ h8, hY, hp, mPas_s] at hH
                    refine lv_iinc (v := (nI (i + 1))) (lv' := [(3, .int (nI (i + 1))), (0, .ref (ga g [20])), (1, .int (nI d)), (2, .int (nI t)), (4, .int (nI k))]) hx hb dX7_pass_144 hl (k := 3) rfl (by first | rfl | exact nI_1 _ | exact nI_add _ _) (by decide) rfl (fun ls hl => ?_)
                    refine lv_goto (tgt := 37) hx hb dX7_pass_147 (by decide) ?_
                    exact ih37 (i + 1) _ _ _ (by omega) (by omega) hH hS (lv_sub hl [1, 2, 3, 0] rfl)
                  · skip
                    have c_61 : ¬ _ := fun z_ => c_61 ((nI_leI (a := (sSz h p)) (b := k) (by omega) (by omega)).mpr z_)
                    refine lv_aload_n hx hb dX7_pass_64 rfl (lv_at hl 0 rfl) ?_
                    refine x_get (C := RX7) (T := TX7) (N := 24) (ci := 7) hx hb hts iu7 hown hK hH (id := [20]) (by first | trivial | (simp only [xD]; omega) | (simp [xD]; done) | (simp [xD]; omega)) rfl rfl (by decide) 15 (by decide) (hts _ tw854) (fun _ h9 => h9) rfl (v := .ref (ga g [21, 15])) rfl dX7_pass_65 ?_
                    refine lv_iload_n hx hb dX7_pass_68 rfl (lv_at hl 3 rfl) ?_
                    refine x_aald hx hb hK hH (id := [21, 15]) (by first | trivial | (simp only [xD]; omega) | (simp [xD]; done) | (simp [xD]; omega)) 7 (L := 4) rfl (by decide) i rfl (by omega) (by decide) (v := .ref (ga g [22, 15, i])) (by show rq _ (if _ then _ else _) = _; rw [if_pos (show i < xLn 15 by show _ < 4; omega)]; rfl) dX7_pass_69 ?_
                    refine lv_iload hx hb dX7_pass_70 (lv_at hl 4 rfl) ?_
                    refine lv_dup2_11 hx hb dX7_pass_72 rfl rfl ?_
                    refine x_iald hx hb hK hH (id := [22, 15, i]) (by first | trivial | (simp only [xD]; omega) | (simp [xD]; done) | (simp [xD]; omega)) (L := 8) rfl (r := ((mOl (vP I p) Y k) 4)) (mW_r4 _ _ _) k rfl (by omega) (by decide) dX7_pass_73 ?_
                    refine lv_aload_n hx hb dX7_pass_74 rfl (lv_at hl 0 rfl) ?_
                    refine x_get (C := RX7) (T := TX7) (N := 24) (ci := 7) hx hb hts iu7 hown hK hH (id := [20]) (by first | trivial | (simp only [xD]; omega) | (simp [xD]; done) | (simp [xD]; omega)) rfl rfl (by decide) 13 (by decide) (hts _ tw852) (fun _ h9 => h9) rfl (v := .ref (ga g [24, 13])) rfl dX7_pass_75 ?_
                    refine lv_iload_n hx hb dX7_pass_78 rfl (lv_at hl 3 rfl) ?_
                    refine x_bald hx hb hK hH (id := [24, 13]) (by first | trivial | (simp only [xD]; omega) | (simp [xD]; done) | (simp [xD]; omega)) (L := 4) rfl (r := (mW J i (mOl (vP I p) Y k) [24, 13])) rfl i rfl (by omega) (by decide) dX7_pass_79 ?_
                    rw [show (mW J i (mOl (vP I p) Y k) [24, 13] i) = ((mOl (vP I p) Y k) 0 7) from mW_c7 _ _ _]
                    refine lv_if_ne (tgt := 120) hx hb dX7_pass_80 (by decide) (fun c_80 => ?_) (fun c_80 => ?_)
                    · skip
                      refine lv_iconst (v := 0) hx hb dX7_pass_120 (by decide) ?_
                      refine lv_iadd hx hb dX7_pass_121 ?_
                      rw [show (((mOl (vP I p) Y k) 4 k) + 0) = (mOl (vP I p) Y (k + 1) 4 k) from (by show _ = if k < k + 1 ∧ Y 0 7 = 0 ∧ sAct (vP I p) Y k = true then Y 4 k + 1 else Y 4 k; rw [if_neg (fun z => c_80 z.2.1), mOl_at]; exact Int32.add_zero _)]
                      obtain ⟨X3_, hX3_⟩ : ∃ z, z = up2 (mOl (vP I p) Y k) 4 k (mOl (vP I p) Y (k + 1) 4 k) := ⟨_, rfl⟩
                      refine x_iast hx hb hK hH hS (id := [22, 15, i]) (by first | trivial | (simp only [xD]; omega) | (simp [xD]; done) | (simp [xD]; omega)) (L := 8) rfl k rfl (by omega) (by decide) ((mW_u4 _ _ _ _ _).trans (congrArg (mW J i) hX3_.symm)) dX7_pass_122 (fun H locs hH hS => ?_)
                      rw [hX3_, mOl_s] at hH
                      refine lv_iinc (v := (nI (k + 1))) (lv' := [(4, .int (nI (k + 1))), (0, .ref (ga g [20])), (1, .int (nI d)), (2, .int (nI t)), (3, .int (nI i))]) hx hb dX7_pass_123 hl (k := 4) rfl (by first | rfl | exact nI_1 _ | exact nI_add _ _) (by decide) rfl (fun ls hl => ?_)
                      refine lv_goto (tgt := 48) hx hb dX7_pass_126 (by decide) ?_
                      exact ih48 (k + 1) _ _ _ (by omega) (by omega) hH hS (lv_sub hl [1, 2, 3, 4, 0] rfl)
                    · skip
                      refine lv_aload_n hx hb dX7_pass_83 rfl (lv_at hl 0 rfl) ?_
                      refine x_get (C := RX7) (T := TX7) (N := 24) (ci := 7) hx hb hts iu7 hown hK hH (id := [20]) (by first | trivial | (simp only [xD]; omega) | (simp [xD]; done) | (simp [xD]; omega)) rfl rfl (by decide) 0 (by decide) (hts _ tw839) (fun _ h9 => h9) rfl (v := .ref (ga g [21, 0])) rfl dX7_pass_84 ?_
                      refine lv_aload_n hx hb dX7_pass_87 rfl (lv_at hl 0 rfl) ?_
                      refine x_get (C := RX7) (T := TX7) (N := 24) (ci := 7) hx hb hts iu7 hown hK hH (id := [20]) (by first | trivial | (simp only [xD]; omega) | (simp [xD]; done) | (simp [xD]; omega)) rfl rfl (by decide) 11 (by decide) (hts _ tw850) (fun _ h9 => h9) rfl (v := .ref (ga g [24, 11])) rfl dX7_pass_88 ?_
                      refine lv_iload_n hx hb dX7_pass_91 rfl (lv_at hl 3 rfl) ?_
                      refine x_iald hx hb hK hH (id := [24, 11]) (by first | trivial | (simp only [xD]; omega) | (simp [xD]; done) | (simp [xD]; omega)) (L := 4) rfl (r := (J [24, 11])) rfl i rfl (by omega) (by decide) dX7_pass_92 ?_
                      rw [show (J [24, 11] i) = (nI p) from hpoJ]
                      refine x_aald hx hb hK hH (id := [21, 0]) (by first | trivial | (simp only [xD]; omega) | (simp [xD]; done) | (simp [xD]; omega)) 8 (L := 3) rfl (by decide) p rfl (by omega) (by decide) (v := .ref (ga g [22, 0, p])) (by show rq _ (if _ then _ else _) = _; rw [if_pos (show p < xLn 0 by show _ < 3; omega)]; rfl) dX7_pass_93 ?_
                      refine lv_iload hx hb dX7_pass_94 (lv_at hl 4 rfl) ?_
                      refine x_cald hx hb hK hH (id := [22, 0, p]) (by first | trivial | (simp only [xD]; omega) | (simp [xD]; done) | (simp [xD]; omega)) (L := 8) rfl (r := (J [22, 0, p])) rfl k rfl (by omega) (by decide) dX7_pass_96 ?_
                      rw [show (J [22, 0, p] k) = (I [7, p, k] 0) from ((hAJ.2 k (by omega)).1.trans (congrFun (congrFun e1 k) 0))]
                      refine lv_bipush (v := 116) hx hb dX7_pass_97 (by decide) ?_
                      refine lv_icmp_ne (tgt := 120) hx hb dX7_pass_99 (by decide) (fun c_99 => ?_) (fun c_99 => ?_)
                      · skip
                        refine lv_iconst (v := 0) hx hb dX7_pass_120 (by decide) ?_
                        refine lv_iadd hx hb dX7_pass_121 ?_
                        rw [show (((mOl (vP I p) Y k) 4 k) + 0) = (mOl (vP I p) Y (k + 1) 4 k) from (by show _ = if k < k + 1 ∧ Y 0 7 = 0 ∧ sAct (vP I p) Y k = true then Y 4 k + 1 else Y 4 k; rw [if_neg (fun z => by have z2 := z.2.2; unfold sAct at z2; rw [decide_eq_false (show ¬ vP I p k 0 = 116 from c_99)] at z2; cases z2), mOl_at]; exact Int32.add_zero _)]
                        obtain ⟨X4_, hX4_⟩ : ∃ z, z = up2 (mOl (vP I p) Y k) 4 k (mOl (vP I p) Y (k + 1) 4 k) := ⟨_, rfl⟩
                        refine x_iast hx hb hK hH hS (id := [22, 15, i]) (by first | trivial | (simp only [xD]; omega) | (simp [xD]; done) | (simp [xD]; omega)) (L := 8) rfl k rfl (by omega) (by decide) ((mW_u4 _ _ _ _ _).trans (congrArg (mW J i) hX4_.symm)) dX7_pass_122 (fun H locs hH hS => ?_)
                        rw [hX4_, mOl_s] at hH
                        refine lv_iinc (v := (nI (k + 1))) (lv' := [(4, .int (nI (k + 1))), (0, .ref (ga g [20])), (1, .int (nI d)), (2, .int (nI t)), (3, .int (nI i))]) hx hb dX7_pass_123 hl (k := 4) rfl (by first | rfl | exact nI_1 _ | exact nI_add _ _) (by decide) rfl (fun ls hl => ?_)
                        refine lv_goto (tgt := 48) hx hb dX7_pass_126 (by decide) ?_
                        exact ih48 (k + 1) _ _ _ (by omega) (by omega) hH hS (lv_sub hl [1, 2, 3, 4, 0] rfl)
                      · skip
                        refine lv_aload_n hx hb dX7_pass_102 rfl (lv_at hl 0 rfl) ?_
                        refine x_get (C := RX7) (T := TX7) (N := 24) (ci := 7) hx hb hts iu7 hown hK hH (id := [20]) (by first | trivial | (simp only [xD]; omega) | (simp [xD]; done) | (simp [xD]; omega)) rfl rfl (by decide) 14 (by decide) (hts _ tw853) (fun _ h9 => h9) rfl (v := .ref (ga g [21, 14])) rfl dX7_pass_103 ?_
                        refine lv_iload_n hx hb dX7_pass_106 rfl (lv_at hl 3 rfl) ?_
                        refine x_aald hx hb hK hH (id := [21, 14]) (by first | trivial | (simp only [xD]; omega) | (simp [xD]; done) | (simp [xD]; omega)) 8 (L := 4) rfl (by decide) i rfl (by omega) (by decide) (v := .ref (ga g [22, 14, i])) (by show rq _ (if _ then _ else _) = _; rw [if_pos (show i < xLn 14 by show _ < 4; omega)]; rfl) dX7_pass_107 ?_
                        refine lv_iload hx hb dX7_pass_108 (lv_at hl 4 rfl) ?_
                        refine x_cald hx hb hK hH (id := [22, 14, i]) (by first | trivial | (simp only [xD]; omega) | (simp [xD]; done) | (simp [xD]; omega)) (L := 8) rfl (r := ((mOl (vP I p) Y k) 2)) (mW_r2 _ _ _) k rfl (by omega) (by decide) dX7_pass_110 ?_
                        refine lv_bipush (v := 97) hx hb dX7_pass_111 (by decide) ?_
                        refine lv_icmp_ne (tgt := 120) hx hb dX7_pass_113 (by decide) (fun c_113 => ?_) (fun c_113 => ?_)
                        · skip
                          refine lv_iconst (v := 0) hx hb dX7_pass_120 (by decide) ?_
                          refine lv_iadd hx hb dX7_pass_121 ?_
                          rw [show (((mOl (vP I p) Y k) 4 k) + 0) = (mOl (vP I p) Y (k + 1) 4 k) from (by show _ = if k < k + 1 ∧ Y 0 7 = 0 ∧ sAct (vP I p) Y k = true then Y 4 k + 1 else Y 4 k; rw [if_neg (fun z => by have z2 := z.2.2; unfold sAct at z2; rw [decide_eq_false (show ¬ Y 2 k = 97 from c_113), Bool.and_false] at z2; cases z2), mOl_at]; exact Int32.add_zero _)]
                          obtain ⟨X5_, hX5_⟩ : ∃ z, z = up2 (mOl (vP I p) Y k) 4 k (mOl (vP I p) Y (k + 1) 4 k) := ⟨_, rfl⟩
                          refine x_iast hx hb hK hH hS (id := [22, 15, i]) (by first | trivial | (simp only [xD]; omega) | (simp [xD]; done) | (simp [xD]; omega)) (L := 8) rfl k rfl (by omega) (by decide) ((mW_u4 _ _ _ _ _).trans (congrArg (mW J i) hX5_.symm)) dX7_pass_122 (fun H locs hH hS => ?_)
                          rw [hX5_, mOl_s] at hH
                          refine lv_iinc (v := (nI (k + 1))) (lv' := [(4, .int (nI (k + 1))), (0, .ref (ga g [20])), (1, .int (nI d)), (2, .int (nI t)), (3, .int (nI i))]) hx hb dX7_pass_123 hl (k := 4) rfl (by first | rfl | exact nI_1 _ | exact nI_add _ _) (by decide) rfl (fun ls hl => ?_)
                          refine lv_goto (tgt := 48) hx hb dX7_pass_126 (by decide) ?_
                          exact ih48 (k + 1) _ _ _ (by omega) (by omega) hH hS (lv_sub hl [1, 2, 3, 4, 0] rfl)
                        · skip
                          refine lv_iconst (v := 1) hx hb dX7_pass_116 (by decide) ?_
                          refine lv_goto (tgt := 121) hx hb dX7_pass_117 (by decide) ?_
                          refine lv_iadd hx hb dX7_pass_121 ?_
                          rw [show (((mOl (vP I p) Y k) 4 k) + 1) = (mOl (vP I p) Y (k + 1) 4 k) from (by show _ = if k < k + 1 ∧ Y 0 7 = 0 ∧ sAct (vP I p) Y k = true then Y 4 k + 1 else Y 4 k; rw [if_pos ⟨by omega, c_80, by unfold sAct; rw [decide_eq_true (show vP I p k 0 = 116 from c_99), decide_eq_true (show Y 2 k = 97 from c_113)]; rfl⟩, mOl_at])]
                          obtain ⟨X6_, hX6_⟩ : ∃ z, z = up2 (mOl (vP I p) Y k) 4 k (mOl (vP I p) Y (k + 1) 4 k) := ⟨_, rfl⟩
                          refine x_iast hx hb hK hH hS (id := [22, 15, i]) (by first | trivial | (simp only [xD]; omega) | (simp [xD]; done) | (simp [xD]; omega)) (L := 8) rfl k rfl (by omega) (by decide) ((mW_u4 _ _ _ _ _).trans (congrArg (mW J i) hX6_.symm)) dX7_pass_122 (fun H locs hH hS => ?_)
                          rw [hX6_, mOl_s] at hH
                          refine lv_iinc (v := (nI (k + 1))) (lv' := [(4, .int (nI (k + 1))), (0, .ref (ga g [20])), (1, .int (nI d)), (2, .int (nI t)), (3, .int (nI i))]) hx hb dX7_pass_123 hl (k := 4) rfl (by first | rfl | exact nI_1 _ | exact nI_add _ _) (by decide) rfl (fun ls hl => ?_)
                          refine lv_goto (tgt := 48) hx hb dX7_pass_126 (by decide) ?_
                          exact ih48 (k + 1) _ _ _ (by omega) (by omega) hH hS (lv_sub hl [1, 2, 3, 4, 0] rfl)
              exact L48 _ 0 _ _ _ (Nat.zero_le _) (Nat.lt_succ_self _) hH hS (lv_sub hl [1, 2, 3, 4, 0] rfl)
        exact L37 _ 0 _ _ _ (by omega) (Nat.lt_succ_self _) hH hS (lv_sub hl [1, 2, 3, 0] rfl)
  exact L30 _ 0 _ _ _ (by omega) (Nat.lt_succ_self _) hH hS (lv_sub hl [1, 2, 0] rfl)

def mSas (h : xS) (I : xI) : Nat → Int64
  | 0 => 0
  | i + 1 => mSas h I i + sSum (fun _ => I [22, 15, i]) (sSz h (sPl h i))
set_option maxHeartbeats 1000000 in
set_option maxRecDepth 100000 in
theorem c_X7_daysWorked (l : Launch) (g : xG) (h : xS) (I : xI) (n : Nat) (m : Nat) (hm4 : m ≤ 4) (hm : I [20] 20 = nI m) (hP : ∀ c, c < m → sPl h c < 3 ∧ I [24, 11] c = nI (sPl h c) ∧ I [24, 8] (sPl h c) = nI (sSz h (sPl h c)) ∧ sSz h (sPl h c) ≤ 8)  : xM l yX7_daysWorked (xws yX7_daysWorked cX7_daysWorked 5 (some FieldType.long)) 1 12 g [.ref (ga g [20])] (xR g (xD h) I (xFh h) n) (some (.long (mSas h I m))) (xR g (xD h) (up I [20] 23 0) (xFh h) n) 0 0 := by
  refine xM.of (by decide) (Nat.le_of_ble_eq_true rfl) ?_
  intro P_ e_ s m_ bl_ mt_ cd_ ls hx hb hr hown hlocks hml hnm hE hK hts hH hS hl
  have hl : lv_has ls 5 [(0, .ref (ga g [20]))] := hl
  refine lv_aload_n hx hb dX7_daysWorked_0 rfl (lv_at hl 0 rfl) ?_
  refine lv_iconst (v := 0) hx hb dX7_daysWorked_1 (by decide) ?_
  obtain ⟨I1_, hI1_⟩ : ∃ z, z = up I [20] 23 0 := ⟨_, rfl⟩
  refine x_put (C := RX7) (T := TX7) (N := 24) (ci := 7) hx hb hts iu7 tyX7 tyX7_ok nmX7 hown hK hH hS (id := [20]) (by first | trivial | (simp only [xD]; omega) | (simp [xD]; done) | (simp [xD]; omega)) rfl rfl (by decide) 23 (by decide) (hts _ tw862) (fun _ h9 => h9) (Or.inl rfl) (ty := .int) (v := .int 0) (by decide +kernel) rfl rfl (I' := I1_) (F' := (xFh h)) (fun i hi => by rw [hI1_]; exact up_id hi) (fun _ _ => rfl) (fun j9 => by rw [hI1_, up_row]; exact xv_upd (ci := 7) (k := 23) rfl j9) dX7_daysWorked_2 (fun H locs hH hS => ?_)
  refine lv_lconst (v := 0) hx hb dX7_daysWorked_5 (by decide) ?_
  refine lv_lstore_n (lv' := [(1, .long 0), (0, .ref (ga g [20]))]) hx hb dX7_daysWorked_6 rfl hl (by decide) rfl (fun ls hl => ?_)
  refine lv_iconst (v := 0) hx hb dX7_daysWorked_7 (by decide) ?_
  refine lv_istore_n (lv' := [(3, .int 0), (1, .long 0), (0, .ref (ga g [20]))]) hx hb dX7_daysWorked_8 rfl hl (by decide) rfl (fun ls hl => ?_)
  have L9 : ∀ (fu : Nat) (i : Nat) (a : Int64) (H : Heap) (locs : List Loc) (ls : Array Slot), (i ≤ m) → (a = mSas h I i) → m - i < fu → xR g (xD h) I1_ (xFh h) n H → va_S (gA g) s.heap H locs → lv_has ls 5 [(0, .ref (ga g [20])), (3, .int (nI i)), (1, .long a)] → W P_ l e_ { frames := 1, cells := 0, slots := 0, locals := 12 } s m_ ([.ref (ga g [20])] : List Value).toArray bl_ mt_ cd_ H locs 0 0 (MQ bl_ (xQc g (some (.long (mSas h I m))) (xR g (xD h) (up I [20] 23 0) (xFh h) n)) ([.ref (ga g [20])] : List Value).toArray s 0 0 (gA g)) (F0 m_ 9 ls []) := by
    intro fu
    induction fu with
    | zero => intro i a H locs ls hi ha hfu; exact absurd hfu (Nat.not_lt_zero _)
    | succ fu ih9 =>
      intro i a H locs ls hi ha hfu hH hS hl
      refine lv_iload_n hx hb dX7_daysWorked_9 rfl (lv_at hl 1 rfl) ?_
      refine lv_aload_n hx hb dX7_daysWorked_10 rfl (lv_at hl 0 rfl) ?_
      refine x_get (C := RX7) (T := TX7) (N := 24) (ci := 7) hx hb hts iu7 hown hK hH (id := [20]) (by first | trivial | (simp only [xD]; omega) | (simp [xD]; done) | (simp [xD]; omega)) rfl rfl (by decide) 20 (by decide) (hts _ tw859) (fun _ h9 => h9) rfl (v := .int (nI m)) (congrArg Value.int (by rw [hI1_, up_ne (by decide)]; exact hm)) dX7_daysWorked_11 ?_
      refine lv_icmp_ge (tgt := 61) hx hb dX7_daysWorked_14 (by decide) (fun c_14 => ?_) (fun c_14 => ?_)
      · skip
        have c_14 := (nI_leI (a := m) (b := i) (by omega) (by omega)).mp c_14
        refine lv_lload_n hx hb dX7_daysWorked_61 rfl (lv_at hl 2 rfl) ?_
        exact x_lret hx hb hr hlocks hS dX7_daysWorked_62 (by rw [ha, show i = m by omega]) (by rw [hI1_] at hH; exact hH)
      · skip
        have c_14 : ¬ _ := fun z_ => c_14 ((nI_leI (a := m) (b := i) (by omega) (by omega)).mpr z_)
        have hPi := hP i (by omega)
        obtain ⟨hp3, -, -, h8⟩ := hPi
        refine lv_iconst (v := 0) hx hb dX7_daysWorked_17 (by decide) ?_
        refine lv_istore (lv' := [(4, .int 0), (0, .ref (ga g [20])), (3, .int (nI i)), (1, .long a)]) hx hb dX7_daysWorked_18 hl (by decide) rfl (fun ls hl => ?_)
        have L20 : ∀ (fu : Nat) (k : Nat) (b : Int64) (H : Heap) (locs : List Loc) (ls : Array Slot), (k ≤ sSz h (sPl h i)) → (b = mSas h I i + sSum (fun _ => I [22, 15, i]) k) → sSz h (sPl h i) - k < fu → xR g (xD h) I1_ (xFh h) n H → va_S (gA g) s.heap H locs → lv_has ls 5 [(0, .ref (ga g [20])), (3, .int (nI i)), (4, .int (nI k)), (1, .long b)] → W P_ l e_ { frames := 1, cells := 0, slots := 0, locals := 12 } s m_ ([.ref (ga g [20])] : List Value).toArray bl_ mt_ cd_ H locs 0 0 (MQ bl_ (xQc g (some (.long (mSas h I m))) (xR g (xD h) (up I [20] 23 0) (xFh h) n)) ([.ref (ga g [20])] : List Value).toArray s 0 0 (gA g)) (F0 m_ 20 ls []) := by
          intro fu
          induction fu with
          | zero => intro k b H locs ls hk hb9 hfu; exact absurd hfu (Nat.not_lt_zero _)
          | succ fu ih20 =>
            intro k b H locs ls hk hb9 hfu hH hS hl
            refine lv_iload hx hb dX7_daysWorked_20 (lv_at hl 2 rfl) ?_
            refine lv_aload_n hx hb dX7_daysWorked_22 rfl (lv_at hl 0 rfl) ?_
            refine x_get (C := RX7) (T := TX7) (N := 24) (ci := 7) hx hb hts iu7 hown hK hH (id := [20]) (by first | trivial | (simp only [xD]; omega) | (simp [xD]; done) | (simp [xD]; omega)) rfl rfl (by decide) 8 (by decide) (hts _ tw847) (fun _ h9 => h9) rfl (v := .ref (ga g [24, 8])) rfl dX7_daysWorked_23 ?_
            refine lv_aload_n hx hb dX7_daysWorked_26 rfl (lv_at hl 0 rfl) ?_
            refine x_get (C := RX7) (T := TX7) (N := 24) (ci := 7) hx hb hts iu7 hown hK hH (id := [20]) (by first | trivial | (simp only [xD]; omega) | (simp [xD]; done) | (simp [xD]; omega)) rfl rfl (by decide) 11 (by decide) (hts _ tw850) (fun _ h9 => h9) rfl (v := .ref (ga g [24, 11])) rfl dX7_daysWorked_27 ?_
            refine lv_iload_n hx hb dX7_daysWorked_30 rfl (lv_at hl 1 rfl) ?_
            refine x_iald hx hb hK hH (id := [24, 11]) (by first | trivial | (simp only [xD]; omega) | (simp [xD]; done) | (simp [xD]; omega)) (L := 4) rfl rfl i rfl (by omega) (by decide) dX7_daysWorked_31 ?_
            rw [show (I1_ [24, 11] i) = (nI (sPl h i)) from (by rw [hI1_, up_id (by decide)]; exact (hP i (by omega)).2.1)]
            refine x_iald hx hb hK hH (id := [24, 8]) (by first | trivial | (simp only [xD]; omega) | (simp [xD]; done) | (simp [xD]; omega)) (L := 3) rfl rfl ((sPl h i)) rfl (by omega) (by decide) dX7_daysWorked_32 ?_
            rw [show (I1_ [24, 8] (sPl h i)) = (nI (sSz h (sPl h i))) from (by rw [hI1_, up_id (by decide)]; exact (hP i (by omega)).2.2.1)]
            refine lv_icmp_ge (tgt := 55) hx hb dX7_daysWorked_33 (by decide) (fun c_33 => ?_) (fun c_33 => ?_)
            · skip
              have c_33 := (nI_leI (a := (sSz h (sPl h i))) (b := k) (by omega) (by omega)).mp c_33
              refine lv_iinc (v := (nI (i + 1))) (lv' := [(3, .int (nI (i + 1))), (0, .ref (ga g [20])), (4, .int (nI k)), (1, .long b)]) hx hb dX7_daysWorked_55 hl (k := 1) rfl (by first | rfl | exact nI_1 _ | exact nI_add _ _) (by decide) rfl (fun ls hl => ?_)
              refine lv_goto (tgt := 9) hx hb dX7_daysWorked_58 (by decide) ?_
              exact ih9 (i + 1) b _ _ _ (by omega) (by rw [hb9, show k = sSz h (sPl h i) by omega]; rfl) (by omega) hH hS (lv_sub hl [1, 0, 3] rfl)
            · skip
              have c_33 : ¬ _ := fun z_ => c_33 ((nI_leI (a := (sSz h (sPl h i))) (b := k) (by omega) (by omega)).mpr z_)
              refine lv_lload_n hx hb dX7_daysWorked_36 rfl (lv_at hl 3 rfl) ?_
              refine lv_aload_n hx hb dX7_daysWorked_37 rfl (lv_at hl 0 rfl) ?_
              refine x_get (C := RX7) (T := TX7) (N := 24) (ci := 7) hx hb hts iu7 hown hK hH (id := [20]) (by first | trivial | (simp only [xD]; omega) | (simp [xD]; done) | (simp [xD]; omega)) rfl rfl (by decide) 15 (by decide) (hts _ tw854) (fun _ h9 => h9) rfl (v := .ref (ga g [21, 15])) rfl dX7_daysWorked_38 ?_
              refine lv_iload_n hx hb dX7_daysWorked_41 rfl (lv_at hl 1 rfl) ?_
              refine x_aald hx hb hK hH (id := [21, 15]) (by first | trivial | (simp only [xD]; omega) | (simp [xD]; done) | (simp [xD]; omega)) 7 (L := 4) rfl (by decide) i rfl (by omega) (by decide) (v := .ref (ga g [22, 15, i])) (by show rq _ (if _ then _ else _) = _; rw [if_pos (show i < xLn 15 by show _ < 4; omega)]; rfl) dX7_daysWorked_42 ?_
              refine lv_iload hx hb dX7_daysWorked_43 (lv_at hl 2 rfl) ?_
              refine x_iald hx hb hK hH (id := [22, 15, i]) (by first | trivial | (simp only [xD]; omega) | (simp [xD]; done) | (simp [xD]; omega)) (L := 8) rfl rfl k rfl (by omega) (by decide) dX7_daysWorked_45 ?_
              rw [show (I1_ [22, 15, i] k) = (I [22, 15, i] k) from (by rw [hI1_, up_id (by simp)])]
              refine lv_i2l hx hb dX7_daysWorked_46 rfl ?_
              refine lv_ladd hx hb dX7_daysWorked_47 ?_
              refine lv_lstore_n (lv' := [(1, .long (b + ((I [22, 15, i] k)).toInt64)), (0, .ref (ga g [20])), (3, .int (nI i)), (4, .int (nI k))]) hx hb dX7_daysWorked_48 rfl hl (by decide) rfl (fun ls hl => ?_)
              refine lv_iinc (v := (nI (k + 1))) (lv' := [(4, .int (nI (k + 1))), (1, .long (b + ((I [22, 15, i] k)).toInt64)), (0, .ref (ga g [20])), (3, .int (nI i))]) hx hb dX7_daysWorked_49 hl (k := 3) rfl (by first | rfl | exact nI_1 _ | exact nI_add _ _) (by decide) rfl (fun ls hl => ?_)
              refine lv_goto (tgt := 20) hx hb dX7_daysWorked_52 (by decide) ?_
              exact ih20 (k + 1) ((b + ((I [22, 15, i] k)).toInt64)) _ _ _ (by omega) (by rw [hb9]; exact Int64.add_assoc _ _ _) (by omega) hH hS (lv_sub hl [2, 3, 0, 1] rfl)
        exact L20 _ 0 a _ _ _ (Nat.zero_le _) (by rw [ha]; exact (Int64.add_zero _).symm) (Nat.lt_succ_self _) hH hS (lv_sub hl [1, 2, 0, 3] rfl)
  exact L9 _ 0 0 _ _ _ (Nat.zero_le _) rfl (Nat.lt_succ_self _) hH hS (lv_sub hl [2, 0, 1] rfl)
