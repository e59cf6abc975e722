/-! THE CASES CHANGE -/
theorem sRul_f (P : Nat → Nat → Int32) (C : Nat → Nat → Nat → Nat → Int32) (cn : Nat → Nat → Nat) (n : Nat) (X : xX) (j : Nat) {f : Nat} (h2 : f ≠ 2) (h5 : f ≠ 5) : (sRul P C cn n X j).2 f = X f := by
  have e : ∀ v, sEnd P n X j v f = X f := fun v => if_neg h2
  unfold sRul
  split
  · exact e _
  · split
    · show up2 (up2 X 2 j (if P j 0 = 109 then 99 else 97)) 5 j (X 5 j + 1) f = X f
      rw [up2_f _ _ _ h5, up2_f _ _ _ h2]
    · split
      · exact e _
      · split
        · exact up2_f _ _ _ h2
        · rfl
theorem sSwp_f (P : Nat → Nat → Int32) (C : Nat → Nat → Nat → Nat → Int32) (cn : Nat → Nat → Nat) (n : Nat) (X : xX) {f : Nat} (h2 : f ≠ 2) (h5 : f ≠ 5) : ∀ i, (sSwp P C cn n i X).2 f = X f
  | 0 => rfl
  | i + 1 => (sRul_f P C cn n _ i h2 h5).trans (sSwp_f P C cn n X h2 h5 i)
theorem sRnd_fk (P : Nat → Nat → Int32) (C : Nat → Nat → Nat → Nat → Int32) (cn : Nat → Nat → Nat) (n : Nat) {f k : Nat} (h2 : f ≠ 2) (h5 : f ≠ 5) (h9 : ¬ (f = 0 ∧ k = 9)) : ∀ (t r : Nat) (X : xX), sRnd P C cn n t r X f k = X f k
  | 0, _, _ => rfl
  | t + 1, r, X => by
    have e : (sSwp P C cn n n X).2 f k = X f k := congrFun (sSwp_f P C cn n X h2 h5 n) k
    show (if (sSwp P C cn n n X).1 = true then sRnd P C cn n t (r + 1) (up2 (sSwp P C cn n n X).2 0 9 (nI (r + 1))) else (sSwp P C cn n n X).2) f k = X f k
    split
    · rw [sRnd_fk P C cn n h2 h5 h9]
      unfold up2
      rw [if_neg h9]; exact e
    · exact e
theorem sTail_fk (P : Nat → Nat → Int32) (C : Nat → Nat → Nat → Nat → Int32) (cn : Nat → Nat → Nat) (n : Nat) (X : xX) {f k : Nat} (h2 : f ≠ 2) (h5 : f ≠ 5) (h8 : ¬ (f = 0 ∧ k = 8)) (h9 : ¬ (f = 0 ∧ k = 9)) (h10 : ¬ (f = 0 ∧ k = 10)) : sTail P C cn n X f k = X f k := by
  unfold sTail sRun
  have a : ∀ (Z : xX) v, up2 Z 0 8 v f k = Z f k := fun Z v => if_neg h8
  have b : ∀ (Z : xX) v, up2 Z 0 9 v f k = Z f k := fun Z v => if_neg h9
  have c : ∀ (Z : xX) v, up2 Z 0 10 v f k = Z f k := fun Z v => if_neg h10
  rw [a, sRnd_fk P C cn n h2 h5 h9, b, c]
theorem sTail_4 (P : Nat → Nat → Int32) (C : Nat → Nat → Nat → Nat → Int32) (cn : Nat → Nat → Nat) (n : Nat) (X : xX) (k : Nat) : sTail P C cn n X 4 k = X 4 k := sTail_fk P C cn n X (by decide) (by decide) (by omega) (by omega) (by omega)
theorem sTail_7 (P : Nat → Nat → Int32) (C : Nat → Nat → Nat → Nat → Int32) (cn : Nat → Nat → Nat) (n : Nat) (X : xX) : sTail P C cn n X 0 7 = X 0 7 := sTail_fk P C cn n X (by decide) (by decide) (by omega) (by omega) (by omega)
theorem sHap_8 (h : xS) (I : xI) (w : Nat) (x y : Int32) (s : Nat × xX) : (sHap h I w x y s).2 0 8 = -1 := by
  match w with
  | 0 => rfl
  | 1 => rfl
  | 2 => rfl
  | 3 => rfl
  | 4 => rfl
  | 5 => rfl
  | 6 => rfl
  | w + 7 => rfl
theorem sHap_7 (h : xS) (I : xI) (w : Nat) (x y : Int32) (s : Nat × xX) (h7 : sBo (s.2 0 7)) : sBo ((sHap h I w x y s).2 0 7) := by
  match w with
  | 0 => show sBo (sTail _ _ _ _ (sNew s.2) 0 7); rw [sTail_7]; exact Or.inl rfl
  | 1 => show sBo (sTail _ _ _ _ (up2 s.2 1 _ y) 0 7); rw [sTail_7, up2_f _ _ _ (by decide)]; exact h7
  | 2 => show sBo (sTail _ _ _ _ (up2 s.2 0 8 x) 0 7); rw [sTail_7, up2_k _ _ _ (by decide)]; exact h7
  | 3 => show sBo (sTail _ _ _ _ (sEnd _ _ s.2 _ 99) 0 7); rw [sTail_7]; exact h7
  | 4 => show sBo (sTail _ _ _ _ (up2 s.2 0 7 1) 0 7); rw [sTail_7, up2_at]; exact Or.inr rfl
  | 5 => show sBo (sTail _ _ _ _ (up2 s.2 0 7 0) 0 7); rw [sTail_7, up2_at]; exact Or.inl rfl
  | 6 => show sBo (sTail _ _ _ _ s.2 0 7); rw [sTail_7]; exact h7
  | w + 7 =>
    show sBo (sTail _ _ _ _ (sOld _ _ s.2) 0 7)
    rw [sTail_7]
    have e : ∀ P n, sOld P n s.2 0 7 = s.2 0 7 := fun P n => by
      unfold sOld
      split
      · unfold sOldT; rw [if_neg (by omega)]; exact up2_k _ _ _ (by decide)
      · exact up2_k _ _ _ (by decide)
    rw [e]; exact h7
theorem sHap_4 (h : xS) (I : xI) {w : Nat} (hw : 1 ≤ w ∧ w ≤ 6) (x y : Int32) (s : Nat × xX) (k : Nat) : (sHap h I w x y s).2 4 k = s.2 4 k := by
  match w, hw with
  | 1, _ => show sTail _ _ _ _ (up2 s.2 1 _ y) 4 k = _; rw [sTail_4, up2_f _ _ _ (by decide)]
  | 2, _ => show sTail _ _ _ _ (up2 s.2 0 8 x) 4 k = _; rw [sTail_4, up2_f _ _ _ (by decide)]
  | 3, _ => show sTail _ _ _ _ (sEnd _ _ s.2 _ 99) 4 k = _; rw [sTail_4]; rfl
  | 4, _ => show sTail _ _ _ _ (up2 s.2 0 7 1) 4 k = _; rw [sTail_4, up2_f _ _ _ (by decide)]
  | 5, _ => show sTail _ _ _ _ (up2 s.2 0 7 0) 4 k = _; rw [sTail_4, up2_f _ _ _ (by decide)]
  | 6, _ => show sTail _ _ _ _ s.2 4 k = _; rw [sTail_4]
theorem i_inc {x : Int32} {b : Int} (h0 : 0 ≤ x.toInt) (hb : x.toInt ≤ b) (hB : b < 2 ^ 31 - 1) : 0 ≤ (x + 1).toInt ∧ (x + 1).toInt ≤ b + 1 := by
  rw [Int32.toInt_add, show (1 : Int32).toInt = 1 from by decide, Int.bmod_eq_of_le (by omega) (by omega)]
  omega
theorem sOld_4 (P : Nat → Nat → Int32) (n : Nat) (X : xX) (k : Nat) {b : Int} (h0 : 0 ≤ (X 4 k).toInt) (hb : (X 4 k).toInt ≤ b) (hB : b < 2 ^ 31 - 1) : 0 ≤ (sOld P n X 4 k).toInt ∧ (sOld P n X 4 k).toInt ≤ b + 1 := by
  unfold sOld
  split
  · unfold sOldT
    split
    · exact i_inc h0 hb hB
    · rw [up2_f _ _ _ (by decide)]; omega
  · rw [up2_f _ _ _ (by decide)]; omega
theorem sItr7_4 (h : xS) (I : xI) (s : Nat × xX) (k : Nat) {b : Int} (h0 : 0 ≤ (s.2 4 k).toInt) (hb : (s.2 4 k).toInt ≤ b) (hB : b < 2 ^ 30) : ∀ t : Nat, t ≤ 10 → 0 ≤ ((sItr h I 7 0 0 t s).2 4 k).toInt ∧ ((sItr h I 7 0 0 t s).2 4 k).toInt ≤ b + t
  | 0, _ => ⟨h0, by show (s.2 4 k).toInt ≤ b + ((0 : Nat) : Int); omega⟩
  | t + 1, ht => by
    obtain ⟨a, c⟩ := sItr7_4 h I s k h0 hb hB t (by omega)
    show 0 ≤ (sTail _ _ _ _ (sOld _ _ (sItr h I 7 0 0 t s).2) 4 k).toInt ∧ (sTail _ _ _ _ (sOld _ _ (sItr h I 7 0 0 t s).2) 4 k).toInt ≤ _
    rw [sTail_4]
    have := sOld_4 (vP I (sItr h I 7 0 0 t s).1) (sSz h (sItr h I 7 0 0 t s).1) (sItr h I 7 0 0 t s).2 k a c (by omega)
    push_cast
    omega
theorem sItr7_7 (h : xS) (I : xI) (s : Nat × xX) (h7 : sBo (s.2 0 7)) : ∀ t, sBo ((sItr h I 7 0 0 t s).2 0 7)
  | 0 => h7
  | t + 1 => sHap_7 h I 7 0 0 (sItr h I 7 0 0 t s) (sItr7_7 h I s h7 t)
theorem sJV.congr {us : Nat → Prop} {h h' : xS} {I I' : xI} {c : Int32} {s0 : Nat × xX} {jn : Nat} (hJ : sJV h I c (false, s0) jn) (hu : sUs us h h' I I') (hr : ∀ r, r < jn → I' [4, 0] r = I [4, 0] r ∧ I' [4, 1] r = I [4, 1] r ∧ I' [4, 2] r = I [4, 2] r ∧ I' [4, 3] r = I [4, 3] r) (hj : sJu us I jn) (hw : ∀ r, r < jn → ∃ w : Nat, w ≤ 7 ∧ I [4, 1] r = nI w ∧ (w ≠ 7 ∨ (1 ≤ sTim I r)))
    (hp : sNp h ≤ sNp h') (hs : ∀ q, q < sNp h → sSz h q ≤ sSz h' q) : sJV h' I' c (false, s0) jn := by
  intro k hk hb hc
  have R := (sRep_congr hu hr hj hw c s0 k (by omega)).1
  rw [R] at hb ⊢
  obtain ⟨q0, q1, q2, q3⟩ := hr k hk
  have eB : ∀ z, sBeg I' c z k = sBeg I c z k := fun z => by unfold sBeg; rw [q0, q1]
  rw [eB] at hb
  rw [q0] at hc
  obtain ⟨w, h7, h8, h9, hv⟩ := hJ k hk hb hc
  refine ⟨w, h7, by rw [q1]; exact h8, fun z => ?_, by rw [q2]; exact sVal_mono hp hs hv⟩
  obtain ⟨d9, d10, d11⟩ := h9 z
  exact ⟨d9, d10, by rw [q2]; exact d11⟩
theorem sJV.snoc {h : xS} {I : xI} {c : Int32} {s0 : Bool × (Nat × xX)} {jn : Nat} (hJ : sJV h I c s0 jn) (hl : sBeg I c (sRep h I c s0 jn).1 jn = true → (I [4, 0] jn = c ∨ I [4, 0] jn = -1) → ∃ w : Nat, w ≤ 7 ∧ I [4, 1] jn = nI w ∧ (w = 7 → sDy I jn) ∧ sVal h w (I [4, 2] jn) (sRep h I c s0 jn).2.1) : sJV h I c s0 (jn + 1) := fun r hr hb hc => by
  by_cases e : r = jn
  · subst e; exact hl hb hc
  · exact hJ r (by omega) hb hc
/-- a row of another case -/
theorem LJr.skip {h : xS} {I : xI} {c jn : Nat} (hJ : LJr h I c jn) (h1 : I [4, 0] jn ≠ nI c) (h2 : I [4, 0] jn ≠ -1) : LJr h I c (jn + 1) := by
  intro p X hX
  obtain ⟨a, b, d, f⟩ := hJ p X hX
  have e : sRep h I (nI c) (false, (p, X)) (jn + 1) = sRep h I (nI c) (false, (p, X)) jn := by
    show (if _ ∧ (I [4, 0] jn = nI c ∨ I [4, 0] jn = -1) then _ else (sBeg I (nI c) (sRep h I (nI c) (false, (p, X)) jn).1 jn, (sRep h I (nI c) (false, (p, X)) jn).2)) = _
    rw [if_neg (fun z => z.2.elim h1 h2)]
    refine Prod.ext ?_ rfl
    show (_ || _) = _
    rw [b]; rfl
  rw [e]
  exact ⟨a.snoc (fun _ z => (z.elim h1 h2).elim), b, d, f⟩
/-- what is said of the plans stays: but a plan may be marked as used -/
def pL0 (id : List Nat) : Bool := match id with
  | [7, _, _] => true
  | [8, _, _, _] => true
  | [10, _, _, _, _] => true
  | [22, f, _] => decide (f < 4)
  | [23, _, _, _] => true
  | [24, 8] => true
  | _ => false
theorem LPa.mark {h h' : xS} {I I' : xI} (hL : LPa h I) (hn : sNp h' = sNp h) (hs : sSz h' = sSz h) (hcn : sCn h' = sCn h) (e : ∀ id, pL0 id = true → I' id = I id) (e50 : ∀ p k, k ≠ 3 → I' [5, p] k = I [5, p] k) (e53 : ∀ p, p < sNp h → I' [24, 9] p = I' [5, p] 3 ∧ sBo (I' [5, p] 3)) (e9 : ∀ p, sNp h ≤ p → I' [24, 9] p = I [24, 9] p) (e01 : I' [0] 1 = I [0] 1) (e10 : I' [20] 10 = I [20] 10) : LPa h' I' := by
  obtain ⟨⟨a, b, c⟩, d, f, g⟩ := hL
  have e7 : ∀ p j, I' [7, p, j] = I [7, p, j] := fun p j => e _ rfl
  have e8 : ∀ p j w, I' [8, p, j, w] = I [8, p, j, w] := fun p j w => e _ rfl
  have e10' : ∀ p j w k, I' [10, p, j, w, k] = I [10, p, j, w, k] := fun p j w k => e _ rfl
  have e22 : ∀ f p, f < 4 → I' [22, f, p] = I [22, f, p] := fun f p hf => e _ (decide_eq_true hf)
  have e23 : ∀ f p j, I' [23, f, p, j] = I [23, f, p, j] := fun f p j => e _ rfl
  have e24 : I' [24, 8] = I [24, 8] := e _ rfl
  refine ⟨⟨by rw [hn]; exact a, by rw [hn, e01]; exact b, fun p hp => ?_⟩, by rw [hn, e10]; exact d, fun p hp => ?_, fun p h1 h2 => ?_⟩
  · have w := c p (by rw [hn] at hp; exact hp)
    unfold xWp xWs at *
    rw [hs, hcn, e50 p 0 (by decide), e50 p 2 (by decide)]
    simp only [e7, e8, e10']
    exact w
  · rw [hn] at hp
    obtain ⟨m1, m2, m3, m4, m5⟩ := f p hp
    refine ⟨?_, (e53 p hp).1, (e53 p hp).2, ?_, ?_⟩
    · unfold mA mS at *
      rw [hs, hcn, e24, e22 0 p (by omega), e22 1 p (by omega), e22 2 p (by omega), e22 3 p (by omega)]
      simp only [e7, e10', e23]
      exact m1
    · rw [hs]; simp only [e7]; exact m4
    · rw [hs]; simp only [e23]; exact m5
  · rw [hn] at h1
    obtain ⟨z1, z2, z3⟩ := g p h1 h2
    exact ⟨by rw [e24]; exact z1, by rw [e9 p h1]; exact z2, fun j w hj hw => by rw [e23]; exact z3 j w hj hw⟩
/-- something happens to the case c: the thing w -/
theorem LV.hap {h h' : xS} {I I' : xI} {jn c w : Nat} {x y : Int32} {X X' : xX} (hL : LV h I jn) (hj : jn < 512) (hc : c < sNc h) (hw : 1 ≤ w ∧ w ≤ 6) (hX : ∃ r, X = rq3 (gX I c) r) (hX' : X' = (sHap h I w x y (sPl h c, X)).2) (hv : sVal h w x (sPl h c))
    (hNp : sNp h' = sNp h) (hNc : sNc h' = sNc h) (hSz : sSz h' = sSz h) (hCn : sCn h' = sCn h) (hPc : sPl h' c = (sHap h I w x y (sPl h c, X)).1) (hPd : ∀ d, d ≠ c → sPl h' d = sPl h d)
    (eL : ∀ id, pL0 id = true → I' id = I id) (e50 : ∀ p k, k ≠ 3 → I' [5, p] k = I [5, p] k) (e53 : ∀ p, p < sNp h → I' [24, 9] p = I' [5, p] 3 ∧ sBo (I' [5, p] 3)) (e5u : ∀ p, ¬ I [5, p] 3 = 0 → ¬ I' [5, p] 3 = 0) (e9 : ∀ p, sNp h ≤ p → I' [24, 9] p = I [24, 9] p)
    (hnew : 0 < sSz h (sPl h' c) ∧ sPl h' c < sNp h ∧ ¬ I' [5, sPl h' c] 3 = 0) (hx6 : w = 6 → ∃ q, q < sNp h ∧ x = nI q ∧ ¬ I' [5, q] 3 = 0)
    (e01 : I' [0] 1 = I [0] 1) (e03 : I' [0] 3 = I [0] 3) (e10 : I' [20] 10 = I [20] 10) (e20 : I' [20] 20 = I [20] 20) (e21 : I' [20] 21 = -1) (e3 : I' [3] 4 = nI (jn + 1))
    (eJ : ∀ r, r < jn → I' [4, 0] r = I [4, 0] r ∧ I' [4, 1] r = I [4, 1] r ∧ I' [4, 2] r = I [4, 2] r ∧ I' [4, 3] r = I [4, 3] r) (eJn : I' [4, 0] jn = nI c ∧ I' [4, 1] jn = nI w ∧ I' [4, 2] jn = x ∧ I' [4, 3] jn = y)
    (eX : gX I' c = X') (eXd : ∀ d, d ≠ c → gX I' d = gX I d) (eA : LAg I' c) (e11 : I' [24, 11] c = nI (sPl h' c)) (eD : ∀ d, d ≠ c → I' [22, 12, d] = I [22, 12, d] ∧ I' [22, 14, d] = I [22, 14, d] ∧ I' [22, 15, d] = I [22, 15, d] ∧ I' [22, 16, d] = I [22, 16, d] ∧ I' [24, 17] d = I [24, 17] d ∧ I' [24, 13] d = I [24, 13] d ∧ I' [24, 18] d = I [24, 18] d ∧ I' [24, 19] d = I [24, 19] d ∧ I' [24, 11] d = I [24, 11] d) : LV h' I' (jn + 1) := by
  obtain ⟨a, ⟨⟨b1, b2, b3⟩, b4, b5, b6, b7⟩, k, ⟨j1, ⟨j2, j3, j4⟩, j5⟩, f⟩ := hL
  have h3 := a.1.1
  have hP := a.mark hNp hSz hCn eL e50 e53 e9 e01 e10
  have us : sUs (fun _ => True) h h' I I' := fun p _ => ⟨funext fun q => eL _ rfl, funext fun q => funext fun v => funext fun z => eL _ rfl, by rw [hSz], by rw [hCn]⟩
  have ju : sJu (fun _ => True) I jn := fun _ _ _ => trivial
  obtain ⟨r0', hX0⟩ := hX
  have hw0 : w ≠ 7 := by omega
  have hI7 : ¬ I' [4, 1] jn = 7 := by rw [eJn.2.1]; exact fun z => hw0 ((nI_eq (a := w) (b := 7) (by omega) (by omega)).mp z)
  have hch : xCh X := by rw [hX0]; exact fun q => (b3 c hc).2 q
  obtain ⟨g1, g2, g3, g4, g5⟩ := (b6 c hc).2
  refine ⟨hP, ⟨⟨by rw [hNc]; exact b1, by rw [hNc, e03]; exact b2, fun d hd => ?_⟩, by rw [e20, hNc]; exact b4, e21, fun d hd => ?_, fun d h1 h2 => ?_⟩, fun d hd q => ?_, ⟨e3, ⟨fun r hr => ?_, fun r hr z => ?_, fun r hr => ?_⟩, fun d hd => ?_⟩, ?_⟩
  · by_cases e : d = c
    · subst e; rw [eX, hNp]; exact ⟨hnew.2.1, by rw [hX']; exact xCh.hap (s := (_, X)) hch⟩
    · rw [eXd d e, hPd d e, hNp]; exact b3 d (by omega)
  · by_cases e : d = c
    · subst e
      refine ⟨eA, by rw [eX, hX']; exact sHap_8 _ _ _ _ _ _, e11, by rw [eX, hX']; exact sHap_7 _ _ _ _ _ (sPl h d, X) (by rw [hX0]; exact g3), by rw [hSz]; exact hnew.1, hnew.2.2⟩
    · obtain ⟨u1, v1, v2, v3, v4, v5⟩ := b6 d (by omega)
      obtain ⟨z1, z2, z3, z4, z5, z6, z7, z8, z9⟩ := eD d e
      refine ⟨?_, by rw [eXd d e]; exact v1, by rw [z9, hPd d e]; exact v2, by rw [eXd d e]; exact v3, by rw [hSz, hPd d e]; exact v4, by rw [hPd d e]; exact e5u _ v5⟩
      unfold LAg at *
      rw [eXd d e, z1, z2, z3, z4, z5, z6, z7, z8]; exact u1
  · rw [hNc] at h1
    obtain ⟨z1, z2, z3, z4, z5, z6, z7, z8, z9⟩ := eD d (by omega)
    have u := b7 d h1 h2
    unfold LC0 at *
    rw [z1, z2, z3, z4, z5, z6, z7, z8]; exact u
  · by_cases e : d = c
    · subst e
      rw [eX, hX', sHap_4 h I hw]
      have := k d hc q
      rw [hX0]
      show 0 ≤ (gX I d 4 q).toInt ∧ (gX I d 4 q).toInt ≤ _
      push_cast; omega
    · rw [eXd d e]
      have := k d (by omega) q
      push_cast; omega
  · by_cases e : r = jn
    · subst e; exact Or.inr ⟨c, by omega, eJn.1⟩
    · rw [(eJ r (by omega)).1, hNc]; exact j2 r (by omega)
  · by_cases e : r = jn
    · subst e
      rw [eJn.2.1] at z
      have h6 : w = 6 := by
        rcases z with z | z
        · exact absurd ((nI_eq (a := w) (b := 0) (by omega) (by omega)).mp z) (by omega)
        · exact (nI_eq (a := w) (b := 6) (by omega) (by omega)).mp z
      rw [eJn.2.2.1, hNp]; exact hx6 h6
    · obtain ⟨q1, q2, q3, q4⟩ := eJ r (by omega)
      rw [q2] at z
      obtain ⟨q, y1, y2, y3⟩ := j3 r (by omega) z
      exact ⟨q, by omega, by rw [q3]; exact y2, e5u q y3⟩
  · by_cases e : r = jn
    · subst e; exact ⟨w, by omega, eJn.2.1, Or.inl hw0⟩
    · obtain ⟨q1, q2, q3, q4⟩ := eJ r (by omega)
      unfold sTim
      rw [q2, q3]; exact j4 r (by omega)
  · have hd' : d < sNc h := by omega
    by_cases e : d = c
    · subst e
      intro p0 X0 hX00
      obtain ⟨m1, m2, m3, r9, m4⟩ := j5 d hc p0 X0 hX00
      have R := (sRep_congr us eJ ju j4 (nI d) (p0, X0) jn (Nat.le_refl _)).1
      have J' := m1.congr us eJ ju j4 (by omega) (fun q _ => by rw [hSz]; exact Nat.le_refl _)
      obtain ⟨S, hS⟩ : ∃ S, S = sRep h I (nI d) (false, (p0, X0)) jn := ⟨_, rfl⟩
      rw [← hS] at R m2 m3 m4
      have hS2 : S.2 = (sPl h d, rq3 (gX I d) r9) := Prod.ext m3 m4
      have hb : sBeg I' (nI d) S.1 jn = true := by unfold sBeg; rw [m2]; rfl
      have hstep : sHap h' I' w x y (sPl h d, rq3 (gX I d) r9) = ((sHap h I w x y (sPl h d, X)).1, rq3 X' r9) := by
        rw [(sHap_congr us (w := w) (x := x) (y := y) (s := (sPl h d, rq3 (gX I d) r9)) (Or.inl ⟨by omega, trivial⟩) (fun _ => trivial)).1, sHap_rq3 h I hw.1, hX', hX0, sHap_rq3 h I hw.1 x y (sPl h d) (gX I d) r0']
        show (_, _) = (_, rq3 (rq3 _ r0') r9)
        rw [rq3_rq3]
      have E : sRep h' I' (nI d) (false, (p0, X0)) (jn + 1) = (true, sHap h' I' w x y (sPl h d, rq3 (gX I d) r9)) := by
        show (if sBeg I' (nI d) (sRep h' I' (nI d) (false, (p0, X0)) jn).1 jn = true ∧ (I' [4, 0] jn = nI d ∨ I' [4, 0] jn = -1) then (sBeg I' (nI d) (sRep h' I' (nI d) (false, (p0, X0)) jn).1 jn, sItr h' I' (I' [4, 1] jn).toNatClampNeg (I' [4, 2] jn) (I' [4, 3] jn) (sTim I' jn) (sRep h' I' (nI d) (false, (p0, X0)) jn).2) else _) = _
        rw [R, hb, if_pos ⟨rfl, Or.inl eJn.1⟩, sTim_1 hI7, eJn.2.1, eJn.2.2.1, eJn.2.2.2, nI_clamp (by omega), hS2]
        rfl
      rw [E, hstep]
      refine ⟨J'.snoc (fun _ _ => ⟨w, by omega, eJn.2.1, fun z => absurd z hw0, ?_⟩), rfl, hPc.symm, r9, by rw [eX]⟩
      rw [R, eJn.2.2.1, hS2]
      exact sVal_mono (by omega) (fun q _ => by rw [hSz]; exact Nat.le_refl _) hv
    · refine ((j5 d hd').congr us eJ ju j4 (by omega) (fun q _ => by rw [hSz]; exact Nat.le_refl _) (eXd d e) (hPd d e)).skip ?_ ?_
      · rw [eJn.1]; exact fun z => e ((nI_eq (a := c) (b := d) (by omega) (by omega)).mp z).symm
      · rw [eJn.1]; exact nI_m1 (by omega)
  · rw [eXd 4 (by omega)]; exact f
/-- days pass for all -/
theorem LV.days {h : xS} {I I' : xI} {jn d : Nat} (hL : LV h I jn) (hj : jn < 512) (hd : 1 ≤ d ∧ d ≤ 10)
    (eL : ∀ id, pL0 id = true → I' id = I id) (e5 : ∀ p, I' [5, p] = I [5, p]) (e9 : I' [24, 9] = I [24, 9]) (e01 : I' [0] 1 = I [0] 1) (e03 : I' [0] 3 = I [0] 3) (e10 : I' [20] 10 = I [20] 10) (e20 : I' [20] 20 = I [20] 20) (e21 : I' [20] 21 = -1) (e3 : I' [3] 4 = nI (jn + 1)) (e11 : I' [24, 11] = I [24, 11])
    (eJ : ∀ r, r < jn → I' [4, 0] r = I [4, 0] r ∧ I' [4, 1] r = I [4, 1] r ∧ I' [4, 2] r = I [4, 2] r ∧ I' [4, 3] r = I [4, 3] r) (eJn : I' [4, 0] jn = -1 ∧ I' [4, 1] jn = 7 ∧ I' [4, 2] jn = nI d)
    (eX : ∀ c, c < sNc h → gX I' c = (sItr h I 7 0 0 d (sPl h c, gX I c)).2) (eX4 : gX I' 4 = gX I 4) (eA : ∀ c, c < sNc h → LAg I' c) (eD : ∀ c, sNc h ≤ c → c < 4 → LC0 I' c) : LV h I' (jn + 1) := by
  obtain ⟨a, ⟨⟨b1, b2, b3⟩, b4, b5, b6, b7⟩, k, ⟨j1, ⟨j2, j3, j4⟩, j5⟩, f⟩ := hL
  have h3 := a.1.1
  have hP := a.mark (h' := h) rfl rfl rfl eL (fun p q _ => by rw [e5]) (fun p hp => by rw [e9, e5]; exact ⟨(a.2.2.1 p hp).2.1, (a.2.2.1 p hp).2.2.1⟩) (fun p _ => by rw [e9]) e01 e10
  have us : sUs (fun _ => True) h h I I' := fun p _ => ⟨funext fun q => eL _ rfl, funext fun q => funext fun v => funext fun z => eL _ rfl, rfl, rfl⟩
  have ju : sJu (fun _ => True) I jn := fun _ _ _ => trivial
  have ht : sTim I' jn = d := sTim_7 eJn.2.1 eJn.2.2 hd.2
  refine ⟨hP, ⟨⟨b1, by rw [e03]; exact b2, fun c hc => ⟨(b3 c hc).1, by rw [eX c hc]; exact xCh.itr d (s := (sPl h c, gX I c)) (b3 c hc).2⟩⟩, by rw [e20]; exact b4, e21, fun c hc => ⟨eA c hc, ?_⟩, eD⟩, fun c hc q => ?_, ⟨e3, ⟨fun r hr => ?_, fun r hr z => ?_, fun r hr => ?_⟩, fun c hc => ?_⟩, by rw [eX4]; exact f⟩
  · obtain ⟨v1, v2, v3, v4, v5⟩ := (b6 c hc).2
    exact ⟨by rw [eX c hc]; exact sItr_ev v1 d, by rw [e11]; exact v2, by rw [eX c hc]; exact sItr7_7 h I (sPl h c, gX I c) v3 d, v4, by rw [e5]; exact v5⟩
  · rw [eX c hc]
    obtain ⟨u1, u2⟩ := k c hc q
    obtain ⟨v1, v2⟩ := sItr7_4 h I (sPl h c, gX I c) q u1 u2 (by omega) d hd.2
    push_cast
    exact ⟨v1, by omega⟩
  · by_cases e : r = jn
    · subst e; exact Or.inl eJn.1
    · rw [(eJ r (by omega)).1]; exact j2 r (by omega)
  · by_cases e : r = jn
    · subst e
      rw [eJn.2.1] at z
      rcases z with z | z <;> exact absurd z (by decide)
    · obtain ⟨q1, q2, q3, q4⟩ := eJ r (by omega)
      rw [q2] at z
      obtain ⟨q, y1, y2, y3⟩ := j3 r (by omega) z
      exact ⟨q, y1, by rw [q3]; exact y2, by rw [e5]; exact y3⟩
  · by_cases e : r = jn
    · subst e; exact ⟨7, by omega, eJn.2.1, Or.inr (by rw [ht]; exact hd.1)⟩
    · obtain ⟨q1, q2, q3, q4⟩ := eJ r (by omega)
      unfold sTim
      rw [q2, q3]; exact j4 r (by omega)
  · intro p0 X0 hX00
    obtain ⟨m1, m2, m3, r9, m4⟩ := j5 c hc p0 X0 hX00
    have R := (sRep_congr us eJ ju j4 (nI c) (p0, X0) jn (Nat.le_refl _)).1
    have J' := m1.congr us eJ ju j4 (Nat.le_refl _) (fun q _ => Nat.le_refl _)
    obtain ⟨S, hS⟩ : ∃ S, S = sRep h I (nI c) (false, (p0, X0)) jn := ⟨_, rfl⟩
    rw [← hS] at R m2 m3 m4
    have hS2 : S.2 = (sPl h c, rq3 (gX I c) r9) := Prod.ext m3 m4
    have hb : sBeg I' (nI c) S.1 jn = true := by unfold sBeg; rw [m2]; rfl
    have E : sRep h I' (nI c) (false, (p0, X0)) (jn + 1) = (true, (sPl h c, rq3 (gX I' c) r9)) := by
      show (if sBeg I' (nI c) (sRep h I' (nI c) (false, (p0, X0)) jn).1 jn = true ∧ (I' [4, 0] jn = nI c ∨ I' [4, 0] jn = -1) then (sBeg I' (nI c) (sRep h I' (nI c) (false, (p0, X0)) jn).1 jn, sItr h I' (I' [4, 1] jn).toNatClampNeg (I' [4, 2] jn) (I' [4, 3] jn) (sTim I' jn) (sRep h I' (nI c) (false, (p0, X0)) jn).2) else _) = _
      rw [R, hb, if_pos ⟨rfl, Or.inr eJn.1⟩, ht, eJn.2.1, hS2, show (7 : Int32).toNatClampNeg = 7 from rfl, sItr7_x,
        (sItr_congr us (w := 7) (x := 0) (y := 0) (s := (sPl h c, rq3 (gX I c) r9)) (Or.inl ⟨by decide, trivial⟩) (fun _ => trivial) d).1, sItr_rq3 h I (by omega), sItr7_1, eX c hc]
    rw [E]
    refine ⟨J'.snoc (fun _ _ => ⟨7, by omega, eJn.2.1, fun _ => ⟨d, hd.2, eJn.2.2⟩, ?_⟩), rfl, rfl, r9, rfl⟩
    rw [R, hS2]
    exact (b3 c hc).1
