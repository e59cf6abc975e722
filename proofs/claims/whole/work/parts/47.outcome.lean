/-! A CALL OF THE LAW: refused by both alike, or answered by both alike -/
def setG (g0 : xG) (a : List Nat → Nat) : xG := (g0.1, g0.2.1, g0.2.2.1, a)
def LW (h : xS) (I : xI) (jn : Nat) : Prop := LV h I jn ∧ (sPl h 4 < sNp h ∨ sPl h 4 = 3)
theorem LW.same {h : xS} {I I' : xI} {jn : Nat} (hL : LW h I jn) (e : ∀ id, lvI id = true → I' id = I id) (e10 : I' [20] 10 = I [20] 10) (e20 : I' [20] 20 = I [20] 20) (e21 : I' [20] 21 = I [20] 21) (h4 : xCh (gX I' 4)) : LW h I' jn := ⟨hL.1.same e e10 e20 e21 h4, hL.2⟩
theorem LW.thr {h : xS} {I : xI} {jn : Nat} (hL : LW h I jn) (k : Int32) : LW h (up I [20] 23 k) jn := hL.same (fun id hi => up_id (by rintro rfl; cases hi)) (up_ne (by decide)) (up_ne (by decide)) (up_ne (by decide)) (by
  have : gX (up I [20] 23 k) 4 = gX I 4 := funext fun f => up_id (by simp)
  rw [this]; exact hL.1.2.2.2.2)
theorem LW.out {h : xS} {I : xI} {jn : Nat} (hL : LW h I jn) (k : Int32) : LW h (up I [30] 0 k) jn := hL.same (fun id hi => up_id (by rintro rfl; cases hi)) (by rw [up_id (by simp)]) (by rw [up_id (by simp)]) (by rw [up_id (by simp)]) (by
  have : gX (up I [30] 0 k) 4 = gX I 4 := funext fun f => up_id (by simp)
  rw [this]; exact hL.1.2.2.2.2)
theorem sIn_cases {x : Int32} {q : Nat} (hq : q < 2 ^ 31) : (sIn x 0 (nI q) = false ∧ (x < 0 ∨ nI q ≤ x)) ∨ ∃ i : Nat, i < q ∧ x = nI i := by
  by_cases h0 : x < 0
  · exact Or.inl ⟨by unfold sIn; rw [decide_eq_true h0]; rfl, Or.inl h0⟩
  · by_cases h1 : nI q ≤ x
    · exact Or.inl ⟨by unfold sIn; rw [decide_eq_true h1]; exact Bool.and_false _, Or.inr h1⟩
    · obtain ⟨i, hi2, hi1⟩ := nI_of h0
      refine Or.inr ⟨i, ?_, hi1⟩
      rw [hi1] at h1
      exact Nat.lt_of_not_le (fun z => h1 ((nI_leI (a := q) (b := i) hq hi2).mpr z))
theorem xR_setG {g0 : xG} {a a' : List Nat → Nat} {h : xS} {I : xI} {n : Nat} {H : Heap} (hH : xR (setG g0 a) (xD h) I (xFh h) n H) (nw : List Nat → Prop) (e : ∀ id, ¬ nw id → a' id = a id) (hn : ∀ id, xD h id → ¬ nw id) (hf : ∀ id k id2, xD h id → xFh h id k = some id2 → ¬ nw id2) : xR (setG g0 a') (xD h) I (xFh h) n H := by
  obtain ⟨h0, h1, h2, h3, h4⟩ := hH
  have ea : ∀ id, xD h id → a' id = a id := fun id hi => e id (hn id hi)
  have er : ∀ id k, xD h id → rq a' (xFh h id k) = rq a (xFh h id k) := fun id k hi => by
    cases hx : xFh h id k with
    | none => rfl
    | some id2 => exact congrArg (fun z => va_rf (some z)) (e id2 (hf id k id2 hi hx))
  refine ⟨h0, fun id hi => ?_, fun i j hi hj q => h2 i j hi hj ?_, fun id hi => ?_, h4⟩
  · have hx := h1 id hi
    unfold xat at hx ⊢
    have e1 : ga (setG g0 a') id = ga (setG g0 a) id := ea id hi
    rw [e1]
    by_cases c : (xk id).1 < 10
    · rw [if_pos c] at hx ⊢
      obtain ⟨w, hw, ho⟩ := hx
      refine ⟨w, hw, ho.to (fun k hk => ?_)⟩
      unfold xv
      split
      · exact (er id k hi).symm
      · rfl
    · rw [if_neg c] at hx ⊢
      rw [show arrV (gT (setG g0 a') ((xk id).1 - 10)) (xk id).2 (xe (ga (setG g0 a')) (I id) (xFh h id) (xk id).1) = arrV (gT (setG g0 a) ((xk id).1 - 10)) (xk id).2 (xe (ga (setG g0 a)) (I id) (xFh h id) (xk id).1) from arrV_ext fun j hj => ?_]
      · exact hx
      · unfold xe
        split
        · rfl
        · split
          · exact er id j hi
          · rfl
  · show a i = a j
    rw [← ea i hi, ← ea j hj]; exact q
  · show gA g0 (a' id)
    rw [ea id hi]; exact h3 id hi
/-- a call of the class's method with the arguments av, by the law's own method, and of the model's: both refuse with the same number, or both answer the same -/
def lwO (l : Launch) (g0 : xG) (a : List Nat → Nat) (h : xS) (I : xI) (n jn : Nat) (yL : MethodName) (cL : ByteArray) (mL : Nat) (hh : List (Nat × Nat × Nat × Nat)) (yM : MethodName) (cM : ByteArray) (mM : Nat) (rM : FieldType) (av : List Value) : Prop :=
  (∃ (k b : Int32) (fr lo fr' lo' : Nat), k ≠ 0 ∧ (fr ≤ 60 ∧ lo ≤ 4000 ∧ fr' ≤ 60 ∧ lo' ≤ 4000) ∧ xMl l yL cL mL (some .int) hh fr lo (setG g0 a) (.ref (a [0]) :: (av ++ [.ref (a [30])])) (xR (setG g0 a) (xD h) I (xFh h) n) (some (.int k)) (xG_ (setG g0 a) (xD h) I (xFh h) n) 1 6 ∧
    ∀ n', xM l yM (xws yM cM mM (some rM)) fr' lo' (setG g0 a) (.ref (a [20]) :: av) (xR (setG g0 a) (xD h) I (xFh h) n') (some (.int b)) (xR (setG g0 a) (xD h) (up I [20] 23 k) (xFh h) n') 0 0) ∨
  ∃ (a' : List Nat → Nat) (h1 : xS) (Iz J0 J : xI) (n1 jn' : Nat) (v : Int32) (fr lo fr' lo' mc ms : Nat), (∀ id, xD h id → a' id = a id) ∧ (fr ≤ 60 ∧ lo ≤ 4000 ∧ fr' ≤ 60 ∧ lo' ≤ 4000 ∧ mc ≤ 6 ∧ ms ≤ 47 ∧ jn' ≤ jn + 1) ∧ (∀ H, xR (setG g0 a) (xD h) I (xFh h) n H → xR (setG g0 a') (xD h) Iz (xFh h) n H) ∧
    xMl l yL cL mL (some .int) hh fr lo (setG g0 a') (.ref (a' [0]) :: (av ++ [.ref (a' [30])])) (xR (setG g0 a') (xD h) Iz (xFh h) n) (some (.int 0)) (xR (setG g0 a') (xD h1) J0 (xFh h1) n1) mc ms ∧
    xM l yM (xws yM cM mM (some rM)) fr' lo' (setG g0 a') (.ref (a' [20]) :: av) (xR (setG g0 a') (xD h1) J0 (xFh h1) n1) (some (.int v)) (xR (setG g0 a') (xD h1) J (xFh h1) n1) 0 0 ∧ J [20] 23 = 0 ∧ J [30] 0 = v ∧ (rM = FieldType.boolean → sBo v) ∧ LW h1 J jn'
/-- .. without anything new -/
theorem lwO.good {l : Launch} {g0 : xG} {a : List Nat → Nat} {h : xS} {I : xI} {n jn : Nat} {yL : MethodName} {cL : ByteArray} {mL : Nat} {hh : List (Nat × Nat × Nat × Nat)} {yM : MethodName} {cM : ByteArray} {mM : Nat} {rM : FieldType} {av : List Value} (h1 : xS) (J0 J : xI) (jn' : Nat) (v : Int32) {fr lo fr' lo' : Nat} (hb : fr ≤ 60 ∧ lo ≤ 4000 ∧ fr' ≤ 60 ∧ lo' ≤ 4000) (hj : jn' ≤ jn + 1)
    (hw : xMl l yL cL mL (some .int) hh fr lo (setG g0 a) (.ref (a [0]) :: (av ++ [.ref (a [30])])) (xR (setG g0 a) (xD h) I (xFh h) n) (some (.int 0)) (xR (setG g0 a) (xD h1) J0 (xFh h1) n) 0 0)
    (hm : xM l yM (xws yM cM mM (some rM)) fr' lo' (setG g0 a) (.ref (a [20]) :: av) (xR (setG g0 a) (xD h1) J0 (xFh h1) n) (some (.int v)) (xR (setG g0 a) (xD h1) J (xFh h1) n) 0 0) (e23 : J [20] 23 = 0) (e30 : J [30] 0 = v) (hL : LW h1 J jn') (hbo : rM = FieldType.boolean → sBo v := by intro z; cases z) : lwO l g0 a h I n jn yL cL mL hh yM cM mM rM av :=
  Or.inr ⟨a, h1, I, J0, J, n, jn', v, fr, lo, fr', lo', 0, 0, fun _ _ => rfl, ⟨hb.1, hb.2.1, hb.2.2.1, hb.2.2.2, by omega, by omega, hj⟩, fun _ z => z, hw, hm, e23, e30, hbo, hL⟩
theorem lwO.bad {l : Launch} {g0 : xG} {a : List Nat → Nat} {h : xS} {I : xI} {n jn : Nat} {yL : MethodName} {cL : ByteArray} {mL : Nat} {hh : List (Nat × Nat × Nat × Nat)} {yM : MethodName} {cM : ByteArray} {mM : Nat} {rM : FieldType} {av : List Value} (k b : Int32) {fr lo fr' lo' : Nat} (hk : k ≠ 0) (hb : fr ≤ 60 ∧ lo ≤ 4000 ∧ fr' ≤ 60 ∧ lo' ≤ 4000)
    (hw : xMl l yL cL mL (some .int) hh fr lo (setG g0 a) (.ref (a [0]) :: (av ++ [.ref (a [30])])) (xR (setG g0 a) (xD h) I (xFh h) n) (some (.int k)) (xG_ (setG g0 a) (xD h) I (xFh h) n) 1 6)
    (hm : ∀ n', xM l yM (xws yM cM mM (some rM)) fr' lo' (setG g0 a) (.ref (a [20]) :: av) (xR (setG g0 a) (xD h) I (xFh h) n') (some (.int b)) (xR (setG g0 a) (xD h) (up I [20] 23 k) (xFh h) n') 0 0) : lwO l g0 a h I n jn yL cL mL hh yM cM mM rM av := Or.inl ⟨k, b, fr, lo, fr', lo', hk, hb, hw, hm⟩
/-- a read: what is behind it -/
theorem LW.read {h : xS} {I : xI} {jn : Nat} (hL : LW h I jn) (v : Int32) : LW h (up (up I [30] 0 v) [20] 23 0) jn := (hL.out v).thr 0
theorem o_rd {l : Launch} {g0 : xG} {a : List Nat → Nat} {h : xS} {I : xI} {n jn : Nat} (hL : LW h I jn) {yL : MethodName} {cL : ByteArray} {mL : Nat} {hh : List (Nat × Nat × Nat × Nat)} {yM : MethodName} {cM : ByteArray} {mM : Nat} {rM : FieldType} {av : List Value} (v : Int32) {fr lo fr' lo' : Nat} (hb : fr ≤ 60 ∧ lo ≤ 4000 ∧ fr' ≤ 60 ∧ lo' ≤ 4000)
    (hw : xMl l yL cL mL (some .int) hh fr lo (setG g0 a) (.ref (a [0]) :: (av ++ [.ref (a [30])])) (xR (setG g0 a) (xD h) I (xFh h) n) (some (.int 0)) (xR (setG g0 a) (xD h) (up I [30] 0 v) (xFh h) n) 0 0)
    (hm : xM l yM (xws yM cM mM (some rM)) fr' lo' (setG g0 a) (.ref (a [20]) :: av) (xR (setG g0 a) (xD h) (up I [30] 0 v) (xFh h) n) (some (.int v)) (xR (setG g0 a) (xD h) (up (up I [30] 0 v) [20] 23 0) (xFh h) n) 0 0) (hbo : rM = FieldType.boolean → sBo v := by intro z; cases z) : lwO l g0 a h I n jn yL cL mL hh yM cM mM rM av :=
  lwO.good h (up I [30] 0 v) (up (up I [30] 0 v) [20] 23 0) jn v hb (by omega) hw hm up_at (by rw [up_id (by simp)]; exact up_at) (hL.read v) hbo
