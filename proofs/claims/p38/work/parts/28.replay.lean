/-! WHAT HAPPENS ONCE MORE: the row of states before (3) is of no account -/
def rq3 (X : xX) (r : Nat → Int32) : xX := fun f => if f = 3 then r else X f
theorem rq3_at (X : xX) (r : Nat → Int32) : rq3 X r 3 = r := if_pos rfl
theorem rq3_ne (X : xX) (r : Nat → Int32) {f : Nat} (h : f ≠ 3) : rq3 X r f = X f := if_neg h
theorem rq3_rq3 (X : xX) (r q : Nat → Int32) : rq3 (rq3 X r) q = rq3 X q := by
  funext f; unfold rq3; by_cases e : f = 3
  · rw [if_pos e, if_pos e]
  · rw [if_neg e, if_neg e, if_neg e]
theorem rq3_self (X : xX) : rq3 X (X 3) = X := by
  funext f; unfold rq3; by_cases e : f = 3
  · rw [if_pos e, e]
  · rw [if_neg e]
theorem rq3_up2 (X : xX) (r : Nat → Int32) {f : Nat} (k : Nat) (v : Int32) (h : f ≠ 3) : up2 (rq3 X r) f k v = rq3 (up2 X f k v) r := by
  funext a b; unfold up2 rq3
  by_cases e : a = 3
  · subst e
    rw [if_neg (fun z => h z.1.symm), if_pos rfl, if_pos rfl]
  · rw [if_neg e, if_neg e]
theorem rq3_sRem (X : xX) : sRem X 8 = rq3 X (sRem X 8 3) := by
  funext f; unfold rq3
  by_cases e : f = 3
  · rw [if_pos e, e]
  · rw [if_neg e]; funext k; exact if_neg (fun z => e z.1)
theorem sMet_rq3 (C : Nat → Int32) (X : xX) (r : Nat → Int32) : sMet C (rq3 X r) = sMet C X := rfl
theorem sAny_rq3 (C : Nat → Nat → Int32) (X : xX) (r : Nat → Int32) : ∀ k, sAny C (rq3 X r) k = sAny C X k
  | 0 => rfl
  | k + 1 => by
    show (sAny C (rq3 X r) k || sMet (C k) (rq3 X r)) = (sAny C X k || sMet (C k) X)
    rw [sAny_rq3 C X r k, sMet_rq3]
theorem sPar_rq3 (P : Nat → Nat → Int32) (X : xX) (r : Nat → Int32) (j : Nat) : sPar P (rq3 X r) j = sPar P X j := rfl
theorem sDon_rq3 (P : Nat → Nat → Int32) (X : xX) (r : Nat → Int32) (j : Nat) : ∀ n, sDon P (rq3 X r) j n = sDon P X j n
  | 0 => rfl
  | i + 1 => by
    show (sDon P (rq3 X r) j i && (decide (P i 1 ≠ nI j) || sOpt P X i)) = (sDon P X j i && (decide (P i 1 ≠ nI j) || sOpt P X i))
    rw [sDon_rq3 P X r j i]
theorem sEnd_rq3 (P : Nat → Nat → Int32) (n : Nat) (X : xX) (r : Nat → Int32) (j : Nat) (v : Int32) : sEnd P n (rq3 X r) j v = rq3 (sEnd P n X j v) r := by
  funext f; unfold sEnd rq3
  by_cases e : f = 2
  · subst e; rfl
  · rw [if_neg e]
    by_cases e3 : f = 3
    · rw [if_pos e3, if_pos e3]
    · rw [if_neg e3, if_neg e3]
      exact (if_neg e).symm
theorem sRul_rq3 (P : Nat → Nat → Int32) (C : Nat → Nat → Nat → Nat → Int32) (cn : Nat → Nat → Nat) (n : Nat) (X : xX) (r : Nat → Int32) (j : Nat) : sRul P C cn n (rq3 X r) j = ((sRul P C cn n X j).1, rq3 (sRul P C cn n X j).2 r) := by
  have e2 : rq3 X r 2 = X 2 := rfl
  have e5 : rq3 X r 5 = X 5 := rfl
  unfold sRul
  rw [sAny_rq3, sAny_rq3, sPar_rq3, sDon_rq3, sEnd_rq3, sEnd_rq3, e2, e5, rq3_up2 _ _ _ _ (by decide), rq3_up2 _ _ _ _ (by decide), rq3_up2 _ _ _ _ (by decide)]
  by_cases h1 : X 2 j = 97 ∧ sAny (C j 1) X (cn j 1) = true
  · simp only [if_pos h1]
  · simp only [if_neg h1]
    by_cases h2 : X 2 j = 105 ∧ sPar P X j = true ∧ (cn j 0 = 0 ∨ sAny (C j 0) X (cn j 0) = true)
    · simp only [if_pos h2]
    · simp only [if_neg h2]
      by_cases h3 : X 2 j = 97 ∧ P j 0 = 115 ∧ sHas P j n = true ∧ sDon P X j n = true
      · simp only [if_pos h3]
      · simp only [if_neg h3]
        by_cases h4 : X 2 j = 99 ∧ P j 0 = 109 ∧ ¬ P j 6 = 0 ∧ 0 < cn j 0 ∧ ¬ sAny (C j 0) X (cn j 0) = true
        · simp only [if_pos h4]
        · simp only [if_neg h4]
theorem sSwp_rq3 (P : Nat → Nat → Int32) (C : Nat → Nat → Nat → Nat → Int32) (cn : Nat → Nat → Nat) (n : Nat) (X : xX) (r : Nat → Int32) : ∀ i, sSwp P C cn n i (rq3 X r) = ((sSwp P C cn n i X).1, rq3 (sSwp P C cn n i X).2 r)
  | 0 => rfl
  | i + 1 => by
    show ((sSwp P C cn n i (rq3 X r)).1 || (sRul P C cn n (sSwp P C cn n i (rq3 X r)).2 i).1, (sRul P C cn n (sSwp P C cn n i (rq3 X r)).2 i).2) = _
    rw [sSwp_rq3 P C cn n X r i, sRul_rq3]; rfl
theorem sRnd_rq3 (P : Nat → Nat → Int32) (C : Nat → Nat → Nat → Nat → Int32) (cn : Nat → Nat → Nat) (n : Nat) (q : Nat → Int32) : ∀ (t r : Nat) (X : xX), sRnd P C cn n t r (rq3 X q) = rq3 (sRnd P C cn n t r X) q
  | 0, _, _ => rfl
  | t + 1, r, X => by
    show (if (sSwp P C cn n n (rq3 X q)).1 = true then sRnd P C cn n t (r + 1) (up2 (sSwp P C cn n n (rq3 X q)).2 0 9 (nI (r + 1))) else (sSwp P C cn n n (rq3 X q)).2) = rq3 (if (sSwp P C cn n n X).1 = true then sRnd P C cn n t (r + 1) (up2 (sSwp P C cn n n X).2 0 9 (nI (r + 1))) else (sSwp P C cn n n X).2) q
    rw [sSwp_rq3]
    by_cases h : (sSwp P C cn n n X).1 = true
    · simp only [if_pos h]
      rw [rq3_up2 _ _ _ _ (by decide), sRnd_rq3 P C cn n q t (r + 1)]
    · simp only [if_neg h]
theorem sTail_rq3 (P : Nat → Nat → Int32) (C : Nat → Nat → Nat → Nat → Int32) (cn : Nat → Nat → Nat) (n : Nat) (X : xX) (q : Nat → Int32) : sTail P C cn n (rq3 X q) = rq3 (sTail P C cn n X) q := by
  unfold sTail sRun
  rw [show rq3 X q 0 10 = X 0 10 from rfl, rq3_up2 _ _ _ _ (by decide), rq3_up2 _ _ _ _ (by decide), sRnd_rq3, rq3_up2 _ _ _ _ (by decide)]
theorem sAct_rq3 (P : Nat → Nat → Int32) (X : xX) (q : Nat → Int32) (j : Nat) : sAct P (rq3 X q) j = sAct P X j := rfl
theorem sOld_rq3 (P : Nat → Nat → Int32) (n : Nat) (X : xX) (q : Nat → Int32) : sOld P n (rq3 X q) = rq3 (sOld P n X) q := by
  have e : up2 (rq3 X q) 0 6 (rq3 X q 0 6 + 1) = rq3 (up2 X 0 6 (X 0 6 + 1)) q := rq3_up2 X q 6 (X 0 6 + 1) (by decide)
  unfold sOld
  rw [show rq3 X q 0 7 = X 0 7 from rfl]
  by_cases h : X 0 7 = 0
  · rw [if_pos h, if_pos h]
    funext f k
    unfold sOldT
    rw [e]
    show (if f = 4 ∧ k < 8 ∧ k < n ∧ sAct P X k = true then X 4 k + 1 else _) = _
    by_cases c : f = 4 ∧ k < 8 ∧ k < n ∧ sAct P X k = true
    · rw [if_pos c]
      show _ = (if f = 3 then q else _) k
      rw [if_neg (by omega)]
      exact (if_pos c).symm
    · rw [if_neg c]
      unfold rq3
      by_cases e3 : f = 3
      · rw [if_pos e3, if_pos e3]
      · rw [if_neg e3, if_neg e3]; exact (if_neg c).symm
  · rw [if_neg h, if_neg h]; exact e
theorem sHap_rq3 (h : xS) (I : xI) {w : Nat} (hw : 1 ≤ w) (x y : Int32) (p : Nat) (X : xX) (q : Nat → Int32) : sHap h I w x y (p, rq3 X q) = ((sHap h I w x y (p, X)).1, rq3 (sHap h I w x y (p, X)).2 q) := by
  match w, hw with
  | 1, _ => show (_, sTail _ _ _ _ (up2 (rq3 X q) 1 _ y)) = _; rw [rq3_up2 _ _ _ _ (by decide), sTail_rq3]; rfl
  | 2, _ => show (_, sTail _ _ _ _ (up2 (rq3 X q) 0 8 x)) = _; rw [rq3_up2 _ _ _ _ (by decide), sTail_rq3]; rfl
  | 3, _ => show (_, sTail _ _ _ _ (sEnd _ _ (rq3 X q) _ 99)) = _; rw [sEnd_rq3, sTail_rq3]; rfl
  | 4, _ => show (_, sTail _ _ _ _ (up2 (rq3 X q) 0 7 1)) = _; rw [rq3_up2 _ _ _ _ (by decide), sTail_rq3]; rfl
  | 5, _ => show (_, sTail _ _ _ _ (up2 (rq3 X q) 0 7 0)) = _; rw [rq3_up2 _ _ _ _ (by decide), sTail_rq3]; rfl
  | 6, _ => show (_, sTail _ _ _ _ (rq3 X q)) = _; rw [sTail_rq3]; rfl
  | w + 7, _ => show (_, sTail _ _ _ _ (sOld _ _ (rq3 X q))) = _; rw [sOld_rq3, sTail_rq3]; rfl
theorem sItr_rq3 (h : xS) (I : xI) {w : Nat} (hw : 1 ≤ w) (x y : Int32) (q : Nat → Int32) (p : Nat) (X : xX) : ∀ t, sItr h I w x y t (p, rq3 X q) = ((sItr h I w x y t (p, X)).1, rq3 (sItr h I w x y t (p, X)).2 q)
  | 0 => rfl
  | t + 1 => by
    show sHap h I w x y (sItr h I w x y t (p, rq3 X q)) = ((sHap h I w x y (sItr h I w x y t (p, X))).1, rq3 (sHap h I w x y (sItr h I w x y t (p, X))).2 q)
    rw [sItr_rq3 h I hw x y q p X t, sHap_rq3 h I hw]
theorem sItr7_x (h : xS) (I : xI) (x y : Int32) : ∀ t s, sItr h I 7 x y t s = sItr h I 7 0 0 t s
  | 0, _ => rfl
  | t + 1, s => by
    show sHap h I 7 x y (sItr h I 7 x y t s) = sHap h I 7 0 0 (sItr h I 7 0 0 t s)
    rw [sItr7_x h I x y t s]; rfl
/-! a case begins: whatever the numbers were, within the rows' lengths -/
def nrm (X : xX) : xX := fun f k => if (f = 0 ∧ 6 ≤ k ∧ k < 11) ∨ (f = 1 ∧ k < 4) ∨ ((f = 2 ∨ f = 3 ∨ f = 4 ∨ f = 5) ∧ k < 8) then X f k else 0
theorem nrm_nrm (X : xX) : nrm (nrm X) = nrm X := by
  funext f k; unfold nrm; split <;> rfl
theorem sTail_09 (P : Nat → Nat → Int32) (C : Nat → Nat → Nat → Nat → Int32) (cn : Nat → Nat → Nat) (n : Nat) (X : xX) (v : Int32) : sTail P C cn n (up2 X 0 9 v) = sTail P C cn n X := by
  unfold sTail sRun
  have e : up2 (up2 (up2 X 0 9 v) 0 10 (up2 X 0 9 v 0 10 + 1)) 0 9 0 = up2 (up2 X 0 10 (X 0 10 + 1)) 0 9 0 := by
    funext a b
    unfold up2
    by_cases c : a = 0 ∧ b = 9
    · rw [if_pos c, if_pos c]
    · rw [if_neg c, if_neg c]
      by_cases c2 : a = 0 ∧ b = 10
      · rw [if_pos c2, if_neg c, if_pos c2]; rfl
      · rw [if_neg c2, if_neg c2, if_neg c]
  rw [e]
theorem sNew_nrm {X Y : xX} (hX : nrm X = X) (hY : nrm Y = Y) : sNew X = up2 (rq3 (sNew Y) (X 3)) 0 9 (X 0 9) := by
  have zX : ∀ f k, ¬ ((f = 0 ∧ 6 ≤ k ∧ k < 11) ∨ (f = 1 ∧ k < 4) ∨ ((f = 2 ∨ f = 3 ∨ f = 4 ∨ f = 5) ∧ k < 8)) → X f k = 0 := fun f k h => by rw [← hX]; exact if_neg h
  have zY : ∀ f k, ¬ ((f = 0 ∧ 6 ≤ k ∧ k < 11) ∨ (f = 1 ∧ k < 4) ∨ ((f = 2 ∨ f = 3 ∨ f = 4 ∨ f = 5) ∧ k < 8)) → Y f k = 0 := fun f k h => by rw [← hY]; exact if_neg h
  funext f k
  by_cases h3 : f = 3
  · subst h3
    rw [up2_f _ _ _ (by decide), rq3_at]
    unfold sNew
    rw [up2_f _ _ _ (by decide), up2_f _ _ _ (by decide), up2_f _ _ _ (by decide), up2_f _ _ _ (by decide)]
    unfold sNw2
    rw [if_neg (by omega), if_neg (by omega), if_neg (by omega)]
  · by_cases h9 : f = 0 ∧ k = 9
    · obtain ⟨rfl, rfl⟩ := h9
      rw [up2_at]
      unfold sNew up2 sNw2
      simp
    · have e1 : up2 (rq3 (sNew Y) (X 3)) 0 9 (X 0 9) f k = sNew Y f k := by
        unfold up2; rw [if_neg h9, rq3_ne _ _ h3]
      rw [e1]
      unfold sNew up2 sNw2
      by_cases c10 : f = 0 ∧ k = 10
      · rw [if_pos c10, if_pos c10]
      · rw [if_neg c10, if_neg c10]
        by_cases c8 : f = 0 ∧ k = 8
        · rw [if_pos c8, if_pos c8]
        · rw [if_neg c8, if_neg c8]
          by_cases c7 : f = 0 ∧ k = 7
          · rw [if_pos c7, if_pos c7]
          · rw [if_neg c7, if_neg c7]
            by_cases c6 : f = 0 ∧ k = 6
            · rw [if_pos c6, if_pos c6]
            · rw [if_neg c6, if_neg c6]
              by_cases d1 : f = 1 ∧ k < 4
              · rw [if_pos d1, if_pos d1]
              · rw [if_neg d1, if_neg d1]
                by_cases d2 : f = 2 ∧ k < 8
                · rw [if_pos d2, if_pos d2]
                · rw [if_neg d2, if_neg d2]
                  by_cases d4 : (f = 4 ∨ f = 5) ∧ k < 8
                  · rw [if_pos d4, if_pos d4]
                  · rw [if_neg d4, if_neg d4, zX f k (by omega), zY f k (by omega)]
theorem sHap0_nrm (h : xS) (I : xI) (x y : Int32) (p q : Nat) {X Y : xX} (hX : nrm X = X) (hY : nrm Y = Y) : sHap h I 0 x y (p, X) = ((sHap h I 0 x y (q, Y)).1, rq3 (sHap h I 0 x y (q, Y)).2 (X 3)) := by
  show (_, sTail _ _ _ _ (sNew X)) = (_, rq3 (sTail _ _ _ _ (sNew Y)) (X 3))
  rw [sNew_nrm hX hY, sTail_09, sTail_rq3]
  rfl
/-! other plans, other rows of the journal -/
theorem sTl_congr {h h' : xS} {I I' : xI} {p : Nat} (eP : vP I' p = vP I p) (eC : vC I' p = vC I p) (eS : sSz h' p = sSz h p) (eN : sCn h' p = sCn h p) (X : xX) : sTl h' I' p X = sTl h I p X := by
  show sTail (vP I' p) (vC I' p) (sCn h' p) (sSz h' p) X = sTail (vP I p) (vC I p) (sCn h p) (sSz h p) X
  rw [eP, eC, eS, eN]
/-- on the plans of us both heaps say the same -/
def sUs (us : Nat → Prop) (h h' : xS) (I I' : xI) : Prop := ∀ p, us p → vP I' p = vP I p ∧ vC I' p = vC I p ∧ sSz h' p = sSz h p ∧ sCn h' p = sCn h p
theorem sHap_congr {us : Nat → Prop} {h h' : xS} {I I' : xI} (hu : sUs us h h' I I') {w : Nat} {x y : Int32} {s : Nat × xX} (hs : (w ≠ 0 ∧ us s.1) ∨ w = 0) (hx : w = 0 ∨ w = 6 → us x.toNatClampNeg) : sHap h' I' w x y s = sHap h I w x y s ∧ us (sHap h I w x y s).1 := by
  have T : ∀ p, us p → ∀ X, sTl h' I' p X = sTl h I p X := fun p hp X => by obtain ⟨a, b, c, d⟩ := hu p hp; exact sTl_congr a b c d X
  match w, hs, hx with
  | 0, _, hx => exact ⟨by show (_, sTl h' I' _ _) = (_, sTl h I _ _); rw [T _ (hx (Or.inl rfl))], hx (Or.inl rfl)⟩
  | 1, hs, _ => have u := (hs.resolve_right (by decide)).2; exact ⟨by show (_, sTl h' I' _ _) = (_, sTl h I _ _); rw [T _ u], u⟩
  | 2, hs, _ => have u := (hs.resolve_right (by decide)).2; exact ⟨by show (_, sTl h' I' _ _) = (_, sTl h I _ _); rw [T _ u], u⟩
  | 3, hs, _ =>
    have u := (hs.resolve_right (by decide)).2
    obtain ⟨a, b, c, d⟩ := hu _ u
    exact ⟨by show (_, sTl h' I' _ (sEnd (vP I' s.1) (sSz h' s.1) s.2 _ 99)) = (_, sTl h I _ (sEnd (vP I s.1) (sSz h s.1) s.2 _ 99)); rw [T _ u, a, c], u⟩
  | 4, hs, _ => have u := (hs.resolve_right (by decide)).2; exact ⟨by show (_, sTl h' I' _ _) = (_, sTl h I _ _); rw [T _ u], u⟩
  | 5, hs, _ => have u := (hs.resolve_right (by decide)).2; exact ⟨by show (_, sTl h' I' _ _) = (_, sTl h I _ _); rw [T _ u], u⟩
  | 6, _, hx => exact ⟨by show (_, sTl h' I' _ _) = (_, sTl h I _ _); rw [T _ (hx (Or.inr rfl))], hx (Or.inr rfl)⟩
  | w + 7, hs, _ =>
    have u := (hs.resolve_right (by omega)).2
    obtain ⟨a, b, c, d⟩ := hu _ u
    exact ⟨by show (_, sTl h' I' _ (sOld (vP I' s.1) (sSz h' s.1) s.2)) = (_, sTl h I _ (sOld (vP I s.1) (sSz h s.1) s.2)); rw [T _ u, a, c], u⟩
theorem sItr_congr {us : Nat → Prop} {h h' : xS} {I I' : xI} (hu : sUs us h h' I I') {w : Nat} {x y : Int32} {s : Nat × xX} (hs : (w ≠ 0 ∧ us s.1) ∨ w = 0) (hx : w = 0 ∨ w = 6 → us x.toNatClampNeg) : ∀ t, sItr h' I' w x y t s = sItr h I w x y t s ∧ (us s.1 ∨ 1 ≤ t → us (sItr h I w x y t s).1)
  | 0 => ⟨rfl, fun h => h.elim id (fun z => absurd z (by omega))⟩
  | t + 1 => by
    obtain ⟨e, u⟩ := sItr_congr hu hs hx t
    have hs' : (w ≠ 0 ∧ us (sItr h I w x y t s).1) ∨ w = 0 := hs.elim (fun z => Or.inl ⟨z.1, u (Or.inl z.2)⟩) Or.inr
    obtain ⟨e2, u2⟩ := sHap_congr hu (x := x) (y := y) hs' hx
    exact ⟨by show sHap h' I' w x y (sItr h' I' w x y t s) = sHap h I w x y (sItr h I w x y t s); rw [e]; exact e2, fun _ => u2⟩
/-- the plans in the journal are of us -/
def sJu (us : Nat → Prop) (I : xI) (jn : Nat) : Prop := ∀ r, r < jn → I [4, 1] r = 0 ∨ I [4, 1] r = 6 → us (I [4, 2] r).toNatClampNeg
theorem nI_06 {w : Int32} (h : w.toNatClampNeg = 6) : w = 6 := by
  have h0 : w.toInt.toNat = 6 := h
  have : w.toInt = 6 := by omega
  exact Int32.toInt_inj.mp (this.trans (by decide))
theorem sRep_congr {us : Nat → Prop} {h h' : xS} {I I' : xI} (hu : sUs us h h' I I') {jn : Nat} (hr : ∀ r, r < jn → I' [4, 0] r = I [4, 0] r ∧ I' [4, 1] r = I [4, 1] r ∧ I' [4, 2] r = I [4, 2] r ∧ I' [4, 3] r = I [4, 3] r) (hj : sJu us I jn) (hw : ∀ r, r < jn → ∃ w : Nat, w ≤ 7 ∧ I [4, 1] r = nI w ∧ (w ≠ 7 ∨ (1 ≤ sTim I r))) (c : Int32) (s0 : Nat × xX) : ∀ r, r ≤ jn → sRep h' I' c (false, s0) r = sRep h I c (false, s0) r ∧ ((sRep h I c (false, s0) r).1 = true → us (sRep h I c (false, s0) r).2.1)
  | 0, _ => ⟨rfl, fun z => nomatch z⟩
  | r + 1, hrj => by
    obtain ⟨e, u⟩ := sRep_congr hu hr hj hw c s0 r (by omega)
    obtain ⟨q0, q1, q2, q3⟩ := hr r (by omega)
    obtain ⟨w, hw7, hwe, hwt⟩ := hw r (by omega)
    have eB : ∀ b, sBeg I' c b r = sBeg I c b r := fun b => by unfold sBeg; rw [q0, q1]
    have eT : sTim I' r = sTim I r := by unfold sTim; rw [q1, q2]
    obtain ⟨S, hS⟩ : ∃ S, S = sRep h I c (false, s0) r := ⟨_, rfl⟩
    rw [← hS] at e u
    have g1 : sRep h' I' c (false, s0) (r + 1) = if sBeg I c S.1 r = true ∧ (I [4, 0] r = c ∨ I [4, 0] r = -1) then (sBeg I c S.1 r, sItr h' I' w (I [4, 2] r) (I [4, 3] r) (sTim I r) S.2) else (sBeg I c S.1 r, S.2) := by
      show (if sBeg I' c (sRep h' I' c (false, s0) r).1 r = true ∧ (I' [4, 0] r = c ∨ I' [4, 0] r = -1) then (sBeg I' c (sRep h' I' c (false, s0) r).1 r, sItr h' I' (I' [4, 1] r).toNatClampNeg (I' [4, 2] r) (I' [4, 3] r) (sTim I' r) (sRep h' I' c (false, s0) r).2) else (sBeg I' c (sRep h' I' c (false, s0) r).1 r, (sRep h' I' c (false, s0) r).2)) = _
      rw [e, eB, eT, q0, q1, q2, q3, hwe, nI_clamp (by omega)]
    have g2 : sRep h I c (false, s0) (r + 1) = if sBeg I c S.1 r = true ∧ (I [4, 0] r = c ∨ I [4, 0] r = -1) then (sBeg I c S.1 r, sItr h I w (I [4, 2] r) (I [4, 3] r) (sTim I r) S.2) else (sBeg I c S.1 r, S.2) := by
      show (if sBeg I c (sRep h I c (false, s0) r).1 r = true ∧ (I [4, 0] r = c ∨ I [4, 0] r = -1) then (sBeg I c (sRep h I c (false, s0) r).1 r, sItr h I (I [4, 1] r).toNatClampNeg (I [4, 2] r) (I [4, 3] r) (sTim I r) (sRep h I c (false, s0) r).2) else (sBeg I c (sRep h I c (false, s0) r).1 r, (sRep h I c (false, s0) r).2)) = _
      rw [← hS, hwe, nI_clamp (by omega)]
    rw [g1, g2]
    have hxu : w = 0 ∨ w = 6 → us (I [4, 2] r).toNatClampNeg := fun z => hj r (by omega) (z.elim (fun q => Or.inl (by rw [hwe, q]; rfl)) (fun q => Or.inr (by rw [hwe, q]; rfl)))
    have ht1 : 1 ≤ sTim I r := by
      rcases hwt with z | z
      · rw [sTim_1 (fun q => z ((nI_eq (a := w) (b := 7) (by omega) (by omega)).mp (hwe.symm.trans q)))]; exact Nat.le_refl 1
      · exact z
    have key : sBeg I c S.1 r = true → (w ≠ 0 ∧ us S.2.1) ∨ w = 0 := fun z => by
      by_cases b : S.1 = true
      · by_cases w0 : w = 0
        · exact Or.inr w0
        · exact Or.inl ⟨w0, u b⟩
      · right
        have b0 : S.1 = false := by simpa using b
        unfold sBeg at z
        rw [b0, Bool.false_or, Bool.and_eq_true, decide_eq_true_iff, decide_eq_true_iff] at z
        exact (nI_eq (a := w) (b := 0) (by omega) (by omega)).mp (hwe.symm.trans z.2)
    by_cases cnd : sBeg I c S.1 r = true ∧ (I [4, 0] r = c ∨ I [4, 0] r = -1)
    · rw [if_pos cnd, if_pos cnd]
      obtain ⟨a, b⟩ := sItr_congr hu (y := I [4, 3] r) (key cnd.1) hxu (sTim I r)
      exact ⟨by rw [a], fun _ => b (Or.inr ht1)⟩
    · rw [if_neg cnd, if_neg cnd]
      refine ⟨rfl, fun z => ?_⟩
      rcases key z with k | k
      · exact k.2
      · by_cases b : S.1 = true
        · exact u b
        · exfalso
          have b0 : S.1 = false := by simpa using b
          have z' : sBeg I c S.1 r = true := z
          unfold sBeg at z'
          rw [b0, Bool.false_or, Bool.and_eq_true, decide_eq_true_iff, decide_eq_true_iff] at z'
          exact cnd ⟨z, Or.inl z'.1⟩
