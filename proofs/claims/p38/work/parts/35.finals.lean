/-! WHAT THE CALLS LEAVE BEHIND -/
def setG (g0 : xG) (a : List Nat → Nat) : xG := (g0.1, g0.2.1, g0.2.2.1, a)
def LW (h : xS) (I : xI) (jn : Nat) : Prop := LV h I jn ∧ (sPl h 4 < sNp h ∨ sPl h 4 = 3)
theorem sIn_cases {x : Int32} {q : Nat} (hq : q < 2 ^ 31) : (sIn x 0 (nI q) = false ∧ (x < 0 ∨ nI q ≤ x)) ∨ ∃ i : Nat, i < q ∧ x = nI i := by
  by_cases h0 : x < 0
  · exact Or.inl ⟨by unfold sIn; rw [decide_eq_true h0]; rfl, Or.inl h0⟩
  · by_cases h1 : nI q ≤ x
    · exact Or.inl ⟨by unfold sIn; rw [decide_eq_true h1]; exact Bool.and_false _, Or.inr h1⟩
    · obtain ⟨i, hi2, hi1⟩ := nI_of h0
      refine Or.inr ⟨i, ?_, hi1⟩
      rw [hi1] at h1
      exact Nat.lt_of_not_le (fun z => h1 ((nI_leI (a := q) (b := i) hq hi2).mpr z))
theorem xR_setG {g0 : xG} {a a' : List Nat → Nat} {h : xS} {I : xI} {n : Nat} {H : Heap} (hH : xR (setG g0 a) (xD h) I (xFh h) n H) (nw : List Nat → Prop) (e : ∀ id, ¬ nw id → a' id = a id) (hn : ∀ id, xD h id → ¬ nw id) (hf : ∀ id k id2, xD h id → xFh h id k = some id2 → ¬ nw id2) : xR (setG g0 a') (xD h) I (xFh h) n H := by
  obtain ⟨h0, h1, h2, h3, h4⟩ := hH
  have ea : ∀ id, xD h id → a' id = a id := fun id hi => e id (hn id hi)
  have er : ∀ id k, xD h id → rq a' (xFh h id k) = rq a (xFh h id k) := fun id k hi => by
    cases hx : xFh h id k with
    | none => rfl
    | some id2 => exact congrArg (fun z => va_rf (some z)) (e id2 (hf id k id2 hi hx))
  refine ⟨h0, fun id hi => ?_, fun i j hi hj q => h2 i j hi hj ?_, fun id hi => ?_, h4⟩
  · have hx := h1 id hi
    unfold xat at hx ⊢
    have e1 : ga (setG g0 a') id = ga (setG g0 a) id := ea id hi
    rw [e1]
    by_cases c : (xk id).1 < 10
    · rw [if_pos c] at hx ⊢
      obtain ⟨w, hw, ho⟩ := hx
      refine ⟨w, hw, ho.to (fun k hk => ?_)⟩
      unfold xv
      split
      · exact (er id k hi).symm
      · rfl
    · rw [if_neg c] at hx ⊢
      rw [show arrV (gT (setG g0 a') ((xk id).1 - 10)) (xk id).2 (xe (ga (setG g0 a')) (I id) (xFh h id) (xk id).1) = arrV (gT (setG g0 a) ((xk id).1 - 10)) (xk id).2 (xe (ga (setG g0 a)) (I id) (xFh h id) (xk id).1) from arrV_ext fun j hj => ?_]
      · exact hx
      · unfold xe
        split
        · rfl
        · split
          · exact er id j hi
          · rfl
  · show a i = a j
    rw [← ea i hi, ← ea j hj]; exact q
  · show gA g0 (a' id)
    rw [ea id hi]; exact h3 id hi
theorem sJ_n (I : xI) (jn : Nat) (a b x y : Int32) {id : List Nat} (h3 : id ≠ [3]) (h4 : ∀ k, id ≠ [4, k]) : sJ I jn a b x y id = I id := by
  unfold sJ
  rw [up_id h3, up_id (h4 3), up_id (h4 2), up_id (h4 1), up_id (h4 0)]
theorem sJ_3 (I : xI) (jn : Nat) (a b x y : Int32) : sJ I jn a b x y [3] 4 = nI (jn + 1) := up_at
theorem sJ_4 (I : xI) (jn : Nat) (a b x y : Int32) (r : Nat) : sJ I jn a b x y [4, 0] r = (if r = jn then a else I [4, 0] r) ∧ sJ I jn a b x y [4, 1] r = (if r = jn then b else I [4, 1] r) ∧ sJ I jn a b x y [4, 2] r = (if r = jn then x else I [4, 2] r) ∧ sJ I jn a b x y [4, 3] r = (if r = jn then y else I [4, 3] r) := by
  unfold sJ up
  simp
theorem kI_no (h : xS) (I : xI) (jn c w : Nat) (x y : Int32) (X : xX) {id : List Nat} (h3 : id ≠ [3]) (h4 : ∀ k, id ≠ [4, k]) (h11 : ∀ f, id ≠ [11, c, f]) : kI h I jn c w x y X id = I id := by
  unfold kI
  rcases sX_cases (sJ I jn (nI c) (nI w) x y) c (sHap h I w x y (sPl h c, X)).2 id with ⟨f, e, -⟩ | ⟨-, e⟩
  · exact absurd e (h11 f)
  · rw [e, sJ_n _ _ _ _ _ _ h3 h4]
theorem rq3_rem (X : xX) : ∃ r, sRem X 8 = rq3 X r := ⟨sRem X 8 3, by
  funext f
  unfold rq3
  by_cases e : f = 3
  · rw [if_pos e, e]
  · rw [if_neg e]; funext k; exact if_neg (fun z => e z.1)⟩
theorem up_ne2 {α : Type} (f : List Nat → Nat → α) {i j : List Nat} {k q : Nat} (v : α) (h : j ≠ i ∨ q ≠ k) : up f i k v j q = f j q := if_neg (fun z => h.elim (fun e => e z.1) (fun e => e z.2))
set_option maxHeartbeats 1000000 in
set_option maxRecDepth 100000 in
/-- something happened to the case c; I0: a plan may have been marked -/
theorem LV.case {h h' : xS} {I I0 : xI} {jn c w : Nat} {x y : Int32} {X : xX} (hL : LV h I jn) (hj : jn < 512) (hc : c < sNc h) (hw : 1 ≤ w ∧ w ≤ 6) (hX : ∃ r, X = rq3 (gX I c) r) (hv : sVal h w x (sPl h c)) (hQ : uX_ (10 * (jn + 1)) (sHap h I w x y (sPl h c, X)).2)
    (h0 : ∀ id, (∀ q, id ≠ [5, q]) → I0 id = I id)
    (hNp : sNp h' = sNp h) (hNc : sNc h' = sNc h) (hSz : sSz h' = sSz h) (hCn : sCn h' = sCn h) (hPc : sPl h' c = (sHap h I w x y (sPl h c, X)).1) (hPd : ∀ d, d ≠ c → sPl h' d = sPl h d)
    (e50 : ∀ p k, k ≠ 3 → I0 [5, p] k = I [5, p] k) (e53 : ∀ p, p < sNp h → sBo (I0 [5, p] 3)) (e5u : ∀ p, ¬ I [5, p] 3 = 0 → ¬ I0 [5, p] 3 = 0)
    (hnew : 0 < sSz h (sPl h' c) ∧ sPl h' c < sNp h ∧ ¬ I0 [5, sPl h' c] 3 = 0) (hx6 : w = 6 → ∃ q, q < sNp h ∧ x = nI q ∧ ¬ I0 [5, q] 3 = 0) : LV h' (kI h I0 jn c w x y X) (jn + 1) ∧ gX (kI h I0 jn c w x y X) c = (sHap h I w x y (sPl h c, X)).2 ∧ ∀ id, (∀ q, id ≠ [5, q]) → (∀ f, id ≠ [11, c, f]) → id ≠ [3] → (∀ k, id ≠ [4, k]) → kI h I0 jn c w x y X id = I id := by
  have n4 := hL.2.1.1.1
  have us : sUs (fun _ => True) h h I I0 := fun p _ => ⟨funext fun q => h0 _ (by simp), funext fun q => funext fun v => funext fun z => h0 _ (by simp), rfl, rfl⟩
  have hX0 : (sHap h I0 w x y (sPl h c, X)).2 = (sHap h I w x y (sPl h c, X)).2 := by
    rw [(sHap_congr us (w := w) (x := x) (y := y) (s := (sPl h c, X)) (Or.inl ⟨by omega, trivial⟩) (fun _ => trivial)).1]
  obtain ⟨I', hI⟩ : ∃ z, z = kI h I0 jn c w x y X := ⟨_, rfl⟩
  rw [← hI]
  have hp5 : ∀ q, I' [5, q] = I0 [5, q] := fun q => by rw [hI, kI_no _ _ _ _ _ _ _ _ (by simp) (by simp) (by simp)]
  have hot : ∀ id, (∀ q, id ≠ [5, q]) → (∀ f, id ≠ [11, c, f]) → id ≠ [3] → (∀ k, id ≠ [4, k]) → I' id = I id := fun id a6 a7 a8 a9 => by
    rw [hI, kI_no _ _ _ _ _ _ _ _ a8 a9 a7, h0 _ a6]
  have h4 : ∀ k, I' [4, k] = sJ I0 jn (nI c) (nI w) x y [4, k] := fun k => by
    rw [hI]
    unfold kI
    rcases sX_cases (sJ I0 jn (nI c) (nI w) x y) c (sHap h I0 w x y (sPl h c, X)).2 [4, k] with ⟨f, e, -⟩ | ⟨-, e⟩
    · simp at e
    · rw [e]
  have i4 : ∀ k, I0 [4, k] = I [4, k] := fun k => h0 _ (by simp)
  have gx : gX I' c = (sHap h I w x y (sPl h c, X)).2 := by
    rw [hI, ← hX0]; exact gX_sX _ _ _
  have gxd : ∀ d, d ≠ c → gX I' d = gX I d := fun d hd => by
    funext f
    show I' [11, d, f] = I [11, d, f]
    rw [hI]
    unfold kI
    rw [sX_ne _ _ _ hd, sJ_n _ _ _ _ _ _ (by simp) (by simp), h0 _ (by simp)]
  refine ⟨hL.hap hj hc hw hX rfl hv hQ hNp hNc hSz hCn hPc hPd (fun id hi => hot id ?_ ?_ ?_ ?_) (fun p k hk => by rw [hp5]; exact e50 p k hk) (fun p hp => by rw [hp5]; exact e53 p hp) (fun p hp => by rw [hp5]; exact e5u p hp) (by rw [hp5]; exact hnew) (fun z => by obtain ⟨q, q1, q2, q3⟩ := hx6 z; exact ⟨q, q1, q2, by rw [hp5]; exact q3⟩)
    (by rw [hot _ (by simp) (by simp) (by simp) (by simp)]) (by rw [hot _ (by simp) (by simp) (by simp) (by simp)]) ?_ (fun r hr => ?_) ?_ gx gxd, gx, hot⟩
  · rintro q rfl; cases hi
  · rintro q rfl; cases hi
  · rintro rfl; cases hi
  · rintro q rfl; cases hi
  · rw [hI]
    unfold kI
    rcases sX_cases (sJ I0 jn (nI c) (nI w) x y) c (sHap h I0 w x y (sPl h c, X)).2 [3] with ⟨f, e, -⟩ | ⟨-, e⟩
    · simp at e
    · rw [e]; exact sJ_3 _ _ _ _ _ _
  · obtain ⟨q1, q2, q3, q4⟩ := sJ_4 I0 jn (nI c) (nI w) x y r
    rw [if_neg (by omega), i4] at q1 q2 q3 q4
    rw [h4, h4, h4, h4]
    exact ⟨q1, q2, q3, q4⟩
  · obtain ⟨q1, q2, q3, q4⟩ := sJ_4 I0 jn (nI c) (nI w) x y jn
    rw [if_pos rfl] at q1 q2 q3 q4
    rw [h4, h4, h4, h4]
    exact ⟨q1, q2, q3, q4⟩
/-- .. where the plans stay -/
theorem LV.case1 {h : xS} {I : xI} {jn c w : Nat} {x y : Int32} {X : xX} (hL : LV h I jn) (hj : jn < 512) (hc : c < sNc h) (hw : 1 ≤ w ∧ w ≤ 5) (hX : ∃ r, X = rq3 (gX I c) r) (hv : sVal h w x (sPl h c)) (hQ : uX_ (10 * (jn + 1)) (sHap h I w x y (sPl h c, X)).2) : LV h (kI h I jn c w x y X) (jn + 1) ∧ gX (kI h I jn c w x y X) c = (sHap h I w x y (sPl h c, X)).2 ∧ ∀ id, (∀ f, id ≠ [11, c, f]) → id ≠ [3] → (∀ k, id ≠ [4, k]) → kI h I jn c w x y X id = I id := by
  obtain ⟨v1, v3, v4, v5⟩ := hL.2.1.2 c hc
  have hp1 : (sHap h I w x y (sPl h c, X)).1 = sPl h c := by
    rcases (show w = 1 ∨ w = 2 ∨ w = 3 ∨ w = 4 ∨ w = 5 by omega) with e | e | e | e | e <;> subst e <;> rfl
  obtain ⟨q1, q2, q3⟩ := hL.case (h' := h) (I0 := I) hj hc ⟨hw.1, by omega⟩ hX hv hQ (fun _ _ => rfl) rfl rfl rfl rfl hp1.symm (fun _ _ => rfl) (fun _ _ _ => rfl) (fun p hp => (hL.1.2 p hp).1) (fun _ z => z) ⟨v4, (hL.2.1.1.2.2 c hc).1, v5⟩ (fun z => by omega)
  exact ⟨q1, q2, fun id a b d => kI_no _ _ _ _ _ _ _ _ b d a⟩
theorem kP_no (h : xS) (I : xI) (jn d : Nat) {id : List Nat} (h3 : id ≠ [3]) (h4 : ∀ k, id ≠ [4, k]) (h11 : ∀ c f, id ≠ [11, c, f]) : kP h I jn d id = I id := by
  unfold kP sXs
  split
  · exact absurd rfl (h11 _ _)
  · exact sJ_n _ _ _ _ _ _ h3 h4
theorem kP_11 (h : xS) (I : xI) (jn d c f : Nat) : kP h I jn d [11, c, f] = if c < sNc h then (sItr h I 7 0 0 d (sPl h c, gX I c)).2 f else I [11, c, f] := by
  unfold kP
  rw [sXs_at]
  by_cases e : c < sNc h
  · rw [if_pos e, if_pos e]
  · rw [if_neg e, if_neg e, sJ_n _ _ _ _ _ _ (by simp) (by simp)]
theorem kP_J (h : xS) (I : xI) (jn d : Nat) {id : List Nat} (h11 : ∀ c f, id ≠ [11, c, f]) : kP h I jn d id = sJ I jn (-1) 7 (nI d) 0 id := by
  unfold kP sXs
  split
  · exact absurd rfl (h11 _ _)
  · rfl
/-- days passed -/
theorem LV.pas {h : xS} {I : xI} {jn d : Nat} (hL : LV h I jn) (hj : jn < 512) (hd : 1 ≤ d ∧ d ≤ 10) : LV h (kP h I jn d) (jn + 1) := by
  have n4 := hL.2.1.1.1
  refine LV.days (I' := kP h I jn d) hL hj hd (fun id hi => ?_) (fun p => ?_) ?_ ?_ ?_ (fun r hr => ?_) ?_ (fun c hc => ?_) ?_
  · exact kP_no _ _ _ _ (by rintro rfl; cases hi) (by rintro q rfl; cases hi) (by rintro q f rfl; cases hi)
  · exact kP_no _ _ _ _ (by simp) (by simp) (by simp)
  · rw [kP_no _ _ _ _ (by simp) (by simp) (by simp)]
  · rw [kP_no _ _ _ _ (by simp) (by simp) (by simp)]
  · rw [kP_J _ _ _ _ (by simp)]; exact sJ_3 _ _ _ _ _ _
  · obtain ⟨q1, q2, q3, q4⟩ := sJ_4 I jn (-1) 7 (nI d) 0 r
    rw [if_neg (by omega)] at q1 q2 q3 q4
    rw [kP_J _ _ _ _ (by simp), kP_J _ _ _ _ (by simp), kP_J _ _ _ _ (by simp), kP_J _ _ _ _ (by simp)]
    exact ⟨q1, q2, q3, q4⟩
  · obtain ⟨q1, q2, q3, q4⟩ := sJ_4 I jn (-1) 7 (nI d) 0 jn
    rw [if_pos rfl] at q1 q2 q3 q4
    rw [kP_J _ _ _ _ (by simp), kP_J _ _ _ _ (by simp), kP_J _ _ _ _ (by simp)]
    exact ⟨q1, q2, q3⟩
  · funext f
    show kP h I jn d [11, c, f] = _
    rw [kP_11, if_pos hc]
  · funext f
    show kP h I jn d [11, 4, f] = I [11, 4, f]
    rw [kP_11, if_neg (by omega)]
theorem LW.pl {h : xS} {I : xI} {jn : Nat} (hL : LW h I jn) : ∀ c, (c < sNc h ∨ c = 4) → sPl h c < sNp h ∨ sPl h c = 3 := by
  rintro c (hc | rfl)
  · exact Or.inl (hL.1.2.1.1.2.2 c hc).1
  · exact hL.2
theorem xF_cl {h : xS} (hp : ∀ c, (c < sNc h ∨ c = 4) → sPl h c < sNp h ∨ sPl h c = 3) {id id2 : List Nat} {k : Nat} (hi : xD h id) (e : xFh h id k = some id2) : xD h id2 ∨ (∃ j, id2 = [7, 3, j]) := by
  unfold xFh at e
  split at e
  · split at e <;> first | (obtain rfl := Option.some.inj e; exact Or.inl trivial) | (obtain rfl := Option.some.inj e; exact Or.inl ⟨Or.inr rfl, by omega⟩) | cases e
  · split at e
    · rename_i z; obtain rfl := Option.some.inj e; exact Or.inl (Or.inl z)
    · cases e
  · split at e
    · rename_i z; obtain rfl := Option.some.inj e; exact Or.inl ⟨Or.inl z, by omega⟩
    · cases e
  · split at e
    · rename_i z; obtain rfl := Option.some.inj e; exact Or.inl z
    · cases e
  · split at e
    · obtain rfl := Option.some.inj e; exact Or.inl hi
    · cases e
  · split at e
    · rename_i p z; obtain rfl := Option.some.inj e
      rcases hi with hi | rfl
      · exact Or.inl ⟨hi, z⟩
      · exact Or.inr ⟨_, rfl⟩
    · cases e
  · split at e
    · obtain rfl := Option.some.inj e; exact Or.inl ⟨hi.1, hi.2, by omega⟩
    · obtain rfl := Option.some.inj e; exact Or.inl ⟨hi.1, hi.2, by omega⟩
    · cases e
  · split at e
    · obtain rfl := Option.some.inj e; exact Or.inl hi
    · cases e
  · split at e
    · rename_i z; obtain rfl := Option.some.inj e; exact Or.inl ⟨hi.1, hi.2.1, hi.2.2, z⟩
    · cases e
  · split at e
    · obtain rfl := Option.some.inj e; exact Or.inl (hp _ hi.1)
    all_goals first | (obtain rfl := Option.some.inj e; exact Or.inl ⟨hi.1, by omega⟩) | cases e
  · cases e
theorem LW.new {g0 : xG} {a a' : List Nat → Nat} {h : xS} {I : xI} {n jn : Nat} {H : Heap} (hL : LW h I jn) (nw : List Nat → Prop) (e : ∀ id, ¬ nw id → a' id = a id) (hn : ∀ id, xD h id → ¬ nw id) (h7 : ∀ j, ¬ nw [7, 3, j]) (hH : xR (setG g0 a) (xD h) I (xFh h) n H) : xR (setG g0 a') (xD h) I (xFh h) n H :=
  xR_setG hH nw e hn (fun id k id2 hi hk => by
    rcases xF_cl hL.pl hi hk with z | ⟨j, rfl⟩
    · exact hn _ z
    · exact h7 _)
def aI (a : List Nat → Nat) (i : List Nat) (v : Nat) : List Nat → Nat := fun id => if id = i then v else a id
theorem aI_at {a : List Nat → Nat} {i : List Nat} {v : Nat} : aI a i v i = v := if_pos rfl
theorem aI_ne {a : List Nat → Nat} {i id : List Nat} {v : Nat} (h : id ≠ i) : aI a i v id = a id := if_neg h
/-! A CASE BEGINS -/
def xF0 : xX := fun f => if f = 0 then rK else r0
theorem rK_ne {k : Nat} (h : k ≠ 8) : rK k = 0 := by
  unfold rK
  rw [if_neg h]
  split
  · rfl
  · split <;> rfl
theorem xF0_nrm : nrm xF0 = xF0 := by
  funext f k
  unfold nrm
  split
  · rfl
  · rename_i e
    unfold xF0
    by_cases h0 : f = 0
    · rw [if_pos h0, rK_ne (fun z => e (Or.inl ⟨h0, by omega, by omega⟩))]
    · rw [if_neg h0]; rfl
theorem xF0_ch : xCh xF0 := fun _ => rfl
theorem iBe_no (h : xS) (I : xI) (p : Nat) {id : List Nat} (h0 : id ≠ [0]) (h5 : id ≠ [5, p]) (h11 : ∀ f, id ≠ [11, sNc h, f]) : iBe h I p id = I id := by
  unfold iBe
  rw [up_id h5, up_id h0, upR_id (h11 5), upR_id (h11 4), upR_id (h11 3), upR_id (h11 2), upR_id (h11 1), upR_id (h11 0)]
theorem iBe_0 (h : xS) (I : xI) (p : Nat) : iBe h I p [0] = fun k => if k = 3 then nI (sNc h + 1) else I [0] k := by
  unfold iBe
  rw [up_id (by simp), up_row, upR_id (by simp), upR_id (by simp), upR_id (by simp), upR_id (by simp), upR_id (by simp), upR_id (by simp)]
theorem iBe_5 (h : xS) (I : xI) (p q k : Nat) : iBe h I p [5, q] k = if q = p ∧ k = 3 then 1 else I [5, q] k := by
  by_cases e : q = p
  · subst e
    unfold iBe
    rw [up_row, up_id (by simp), upR_id (by simp), upR_id (by simp), upR_id (by simp), upR_id (by simp), upR_id (by simp), upR_id (by simp)]
    by_cases e3 : k = 3
    · show (if k = 3 then _ else _) = _
      rw [if_pos e3, if_pos ⟨rfl, e3⟩]
    · show (if k = 3 then _ else _) = _
      rw [if_neg e3, if_neg (fun z => e3 z.2)]
  · rw [iBe_no _ _ _ (by simp) (by simpa using e) (by simp), if_neg (fun z => e z.1)]
theorem iBe_X {h : xS} {I : xI} {p : Nat} (hz : ∀ f, I [11, sNc h, f] = r0) : gX (iBe h I p) (sNc h) = xF0 := by
  funext f
  show iBe h I p [11, sNc h, f] = _
  unfold iBe xF0
  rw [up_id (by simp), up_id (by simp)]
  rcases (show f = 0 ∨ f = 1 ∨ f = 2 ∨ f = 3 ∨ f = 4 ∨ f = 5 ∨ 6 ≤ f by omega) with r | r | r | r | r | r | r
  · subst r; rw [upR_id (by simp), upR_id (by simp), upR_id (by simp), upR_id (by simp), upR_id (by simp), upR_at]; rfl
  · subst r; rw [upR_id (by simp), upR_id (by simp), upR_id (by simp), upR_id (by simp), upR_at]; rfl
  · subst r; rw [upR_id (by simp), upR_id (by simp), upR_id (by simp), upR_at]; rfl
  · subst r; rw [upR_id (by simp), upR_id (by simp), upR_at]; rfl
  · subst r; rw [upR_id (by simp), upR_at]; rfl
  · subst r; rw [upR_at]; rfl
  · rw [upR_id (by simp; omega), upR_id (by simp; omega), upR_id (by simp; omega), upR_id (by simp; omega), upR_id (by simp; omega), upR_id (by simp; omega), hz, if_neg (by omega)]
