/-! THE STATE: h says how many plans, cases, steps, conditions there are and which plan a case has; I what the numbers are -/
abbrev xS : Type := Nat × Nat × (Nat → Nat) × (Nat → Nat → Nat → Nat) × (Nat → Nat) × Nat
abbrev sNp (h : xS) : Nat := h.1
abbrev sNc (h : xS) : Nat := h.2.1
abbrev sSz (h : xS) : Nat → Nat := h.2.2.1
abbrev sCn (h : xS) : Nat → Nat → Nat → Nat := h.2.2.2.1
abbrev sPl (h : xS) : Nat → Nat := h.2.2.2.2.1
/-- how many int rows of the law's own there are -/
abbrev sOw (h : xS) : Nat := h.2.2.2.2.2
def xD (h : xS) (id : List Nat) : Prop := match id with
  | [0] => True
  | [1] => True
  | [2] => True
  | [3] => True
  | [4, q] => q < 4
  | [5, p] => p < sNp h ∨ p = 3
  | [6, p] => p < sNp h ∨ p = 3
  | [7, p, j] => p < sNp h ∧ j < sSz h p
  | [8, p, j, w] => p < sNp h ∧ j < sSz h p ∧ w < 2
  | [9, p, j, w] => p < sNp h ∧ j < sSz h p ∧ w < 2
  | [10, p, j, w, k] => p < sNp h ∧ j < sSz h p ∧ w < 2 ∧ k < sCn h p j w
  | [11, c, f] => (c < sNc h ∨ c = 4) ∧ f < 6
  | [40] => 1 ≤ sOw h
  | [41] => 2 ≤ sOw h
  | _ => False
def xFh (h : xS) (id : List Nat) (k : Nat) : Option (List Nat) := match id with
  | [0] => (match k with | 0 => some [1] | 2 => some [2] | 4 => some [3] | 5 => some [11, 4, 0] | _ => none)
  | [1] => if k < sNp h then some [5, k] else none
  | [2] => if k < sNc h then some [11, k, 0] else none
  | [3] => if k < 4 then some [4, k] else none
  | [5, p] => (match k with | 1 => some [6, p] | _ => none)
  | [6, p] => if k < sSz h p then some [7, p, k] else none
  | [7, p, j] => (match k with | 2 => some [8, p, j, 0] | 3 => some [8, p, j, 1] | _ => none)
  | [8, p, j, w] => (match k with | 0 => some [9, p, j, w] | _ => none)
  | [9, p, j, w] => if k < sCn h p j w then some [10, p, j, w, k] else none
  | [11, c, 0] => (match k with | 0 => some [5, sPl h c] | 1 => some [11, c, 1] | 2 => some [11, c, 2] | 3 => some [11, c, 3] | 4 => some [11, c, 4] | 5 => some [11, c, 5] | _ => none)
  | _ => none
/-- a case's numbers: X 0 the fields (6 age, 7 waiting, 8 present, 9 lastRounds, 10 things), X 1 data, X 2 states, X 3 statesBefore, X 4 clocks, X 5 counts -/
abbrev xX : Type := Nat → Nat → Int32
def up2 {α : Type} (X : Nat → Nat → α) (f k : Nat) (v : α) : Nat → Nat → α := fun a b => if a = f ∧ b = k then v else X a b
def sX (I : xI) (c : Nat) (X : xX) (id : List Nat) : Nat → Int32 := match id with
  | [11, d, f] => if d = c then X f else I id
  | _ => I id
def gX (I : xI) (c : Nat) : xX := fun f => I [11, c, f]
theorem sX_at (I : xI) (c : Nat) (X : xX) (f : Nat) : sX I c X [11, c, f] = X f := by simp [sX]
theorem sX_ne (I : xI) {c d : Nat} (X : xX) (f : Nat) (h : d ≠ c) : sX I c X [11, d, f] = I [11, d, f] := by simp [sX, h]
theorem sX_cases (I : xI) (c : Nat) (X : xX) (id : List Nat) : (∃ f, id = [11, c, f] ∧ sX I c X id = X f) ∨ ((∀ f, id ≠ [11, c, f]) ∧ sX I c X id = I id) := by
  unfold sX
  split
  · rename_i d f
    by_cases e : d = c
    · subst e; exact Or.inl ⟨f, rfl, by simp⟩
    · exact Or.inr ⟨fun f' q => e (by simpa using (List.cons.inj (List.cons.inj q).2).1), by simp [e]⟩
  · rename_i h
    exact Or.inr ⟨fun f q => h c f q, rfl⟩
theorem sX_get (I : xI) (c : Nat) : sX I c (gX I c) = I := by
  funext id
  rcases sX_cases I c (gX I c) id with ⟨f, rfl, h⟩ | ⟨-, h⟩
  · rw [h]; rfl
  · exact h
theorem sX_up (I : xI) (c : Nat) (X : xX) (f k : Nat) (v : Int32) : up (sX I c X) [11, c, f] k v = sX I c (up2 X f k v) := by
  funext id q
  rcases sX_cases I c X id with ⟨a, rfl, h⟩ | ⟨h0, h⟩
  · rw [sX_at]
    by_cases e : a = f
    · subst e; simp [up, up2, sX_at]
    · simp [up, up2, sX_at, e]
  · rcases sX_cases I c (up2 X f k v) id with ⟨a, rfl, -⟩ | ⟨-, h2⟩
    · exact absurd rfl (h0 a)
    · rw [h2, up, if_neg (fun z => h0 f z.1), h]
theorem sX_sX (I : xI) (c : Nat) (X Y : xX) : sX (sX I c X) c Y = sX I c Y := by
  funext id
  rcases sX_cases (sX I c X) c Y id with ⟨f, rfl, h⟩ | ⟨h0, h⟩
  · rw [h, sX_at]
  · rw [h]
    rcases sX_cases I c X id with ⟨f, rfl, -⟩ | ⟨-, h2⟩
    · exact absurd rfl (h0 f)
    · rcases sX_cases I c Y id with ⟨f, rfl, -⟩ | ⟨-, h3⟩
      · exact absurd rfl (h0 f)
      · rw [h2, h3]
theorem gX_sX (I : xI) (c : Nat) (X : xX) : gX (sX I c X) c = X := by funext f; exact sX_at I c X f
theorem up2_at {α : Type} (X : Nat → Nat → α) (f k : Nat) (v : α) : up2 X f k v f k = v := by simp [up2]
theorem up2_f {α : Type} (X : Nat → Nat → α) {f a : Nat} (k : Nat) (v : α) (h : a ≠ f) : up2 X f k v a = X a := by funext b; simp [up2, h]
theorem up2_k {α : Type} (X : Nat → Nat → α) (f : Nat) {k b : Nat} (v : α) (h : b ≠ k) : up2 X f k v f b = X f b := by simp [up2, h]
/-- what a condition's numbers may be -/
def sCV (C : Nat → Int32) (n : Nat) : Prop := ((C 0 = 100 ∨ C 0 = 108) ∧ ∃ a : Nat, a < 4 ∧ C 1 = nI a) ∨ C 0 = 101 ∨ (C 0 = 99 ∧ ∃ a : Nat, a < n ∧ C 1 = nI a) ∨ C 0 = 116
def xWs (h : xS) (I : xI) (p j : Nat) : Prop :=
  (I [7, p, j] 0 = 115 ∨ I [7, p, j] 0 = 116 ∨ I [7, p, j] 0 = 109) ∧ (I [7, p, j] 1 = -1 ∨ ∃ q : Nat, q < j ∧ I [7, p, j] 1 = nI q ∧ I [7, p, q] 0 = 115) ∧
  ∀ w : Nat, w < 2 → I [8, p, j, w] 1 = nI (sCn h p j w) ∧ sCn h p j w ≤ 3 ∧ ∀ k : Nat, k < sCn h p j w → sCV (I [10, p, j, w, k]) (sSz h p)
def xWp (h : xS) (I : xI) (p : Nat) : Prop := sSz h p ≤ 8 ∧ I [5, p] 0 = nI p ∧ I [5, p] 2 = nI (sSz h p) ∧ ∀ j : Nat, j < sSz h p → xWs h I p j
/-- a state's number is a char's -/
def xCh (X : xX) : Prop := ∀ k, narrow .char (.int (X 2 k)) = .int (X 2 k)
/-! WHAT THE METHODS ANSWER, over a case's numbers X and its plan's: P j f the step j's field f, C j w k f a condition's, cn j w how many -/
def sMet (C : Nat → Int32) (X : xX) : Bool :=
  if C 0 = 100 then decide (C 2 ≤ X 1 (C 1).toNatClampNeg) else if C 0 = 108 then decide (X 1 (C 1).toNatClampNeg < C 2) else if C 0 = 101 then decide (X 0 8 = C 1) else if C 0 = 99 then decide (X 2 (C 1).toNatClampNeg = 99) else decide (C 1 ≤ X 0 6)
def sAny (C : Nat → Nat → Int32) (X : xX) : Nat → Bool
  | 0 => false
  | k + 1 => sAny C X k || sMet (C k) X
def b01 (b : Bool) : Int32 := if b = true then 1 else 0
/-- ends below: i steps are looked at, D says which are over -/
def sFin (P : Nat → Nat → Int32) (i : Nat) (s : (Nat → Int32) × (Nat → Bool)) : (Nat → Int32) × (Nat → Bool) :=
  if P i 1 ≠ -1 ∧ s.2 (P i 1).toNatClampNeg = true ∧ (s.1 i = 105 ∨ s.1 i = 97) then (fun k => if k = i then 120 else s.1 k, fun k => if k = i then true else s.2 k) else s
def sFins (P : Nat → Nat → Int32) (i0 : Nat) : Nat → (Nat → Int32) × (Nat → Bool) → (Nat → Int32) × (Nat → Bool)
  | 0, s => s
  | d + 1, s => sFin P (i0 + d) (sFins P i0 d s)
def sEnd (P : Nat → Nat → Int32) (n : Nat) (X : xX) (j : Nat) (v : Int32) : xX := fun f => if f = 2 then (sFins P (j + 1) (n - (j + 1)) (fun k => if k = j then v else X 2 k, fun k => decide (k = j))).1 else X f
def sOpt (P : Nat → Nat → Int32) (X : xX) (i : Nat) : Bool := decide (X 2 i = 99) || decide (X 2 i = 120) || (decide (X 2 i = 105) && decide (P i 0 = 116) && decide (P i 4 = 0))
/-- are the children among the first n steps all done; is there one -/
def sDon (P : Nat → Nat → Int32) (X : xX) (j : Nat) : Nat → Bool
  | 0 => true
  | i + 1 => sDon P X j i && (decide (P i 1 ≠ nI j) || sOpt P X i)
def sHas (P : Nat → Nat → Int32) (j : Nat) : Nat → Bool
  | 0 => false
  | i + 1 => sHas P j i || decide (P i 1 = nI j)
def sPar (P : Nat → Nat → Int32) (X : xX) (j : Nat) : Bool := decide (P j 1 = -1) || decide (X 2 (P j 1).toNatClampNeg = 97)
def sRul (P : Nat → Nat → Int32) (C : Nat → Nat → Nat → Nat → Int32) (cn : Nat → Nat → Nat) (n : Nat) (X : xX) (j : Nat) : Bool × xX :=
  if X 2 j = 97 ∧ sAny (C j 1) X (cn j 1) = true then (true, sEnd P n X j 120)
  else if X 2 j = 105 ∧ sPar P X j = true ∧ (cn j 0 = 0 ∨ sAny (C j 0) X (cn j 0) = true) then (true, up2 (up2 X 2 j (if P j 0 = 109 then 99 else 97)) 5 j (X 5 j + 1))
  else if X 2 j = 97 ∧ P j 0 = 115 ∧ sHas P j n = true ∧ sDon P X j n = true then (true, sEnd P n X j 99)
  else if X 2 j = 99 ∧ P j 0 = 109 ∧ ¬ P j 6 = 0 ∧ 0 < cn j 0 ∧ ¬ sAny (C j 0) X (cn j 0) = true then (true, up2 X 2 j 105)
  else (false, X)
def sSwp (P : Nat → Nat → Int32) (C : Nat → Nat → Nat → Nat → Int32) (cn : Nat → Nat → Nat) (n : Nat) : Nat → xX → Bool × xX
  | 0, X => (false, X)
  | i + 1, X => let r := sSwp P C cn n i X; let q := sRul P C cn n r.2 i; (r.1 || q.1, q.2)
/-- t more rounds at most, r are over -/
def sRnd (P : Nat → Nat → Int32) (C : Nat → Nat → Nat → Nat → Int32) (cn : Nat → Nat → Nat) (n : Nat) : Nat → Nat → xX → xX
  | 0, _, X => X
  | t + 1, r, X => let q := sSwp P C cn n n X; if q.1 = true then sRnd P C cn n t (r + 1) (up2 q.2 0 9 (nI (r + 1))) else q.2
def sRun (P : Nat → Nat → Int32) (C : Nat → Nat → Nat → Nat → Int32) (cn : Nat → Nat → Nat) (n : Nat) (X : xX) : xX := sRnd P C cn n 20 0 (up2 X 0 9 0)
/-- a plan's numbers in the class's heap -/
def vP (I : xI) (p : Nat) : Nat → Nat → Int32 := fun j => I [7, p, j]
def vC (I : xI) (p : Nat) : Nat → Nat → Nat → Nat → Int32 := fun j w k => I [10, p, j, w, k]
