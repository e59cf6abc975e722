/-! THE CASES CHANGE -/
theorem sHap_8 (h : xS) (I : xI) (w : Nat) (x y : Int32) (s : Nat × xX) : (sHap h I w x y s).2 0 8 = -1 := by
  match w with
  | 0 => rfl
  | 1 => rfl
  | 2 => rfl
  | 3 => rfl
  | 4 => rfl
  | 5 => rfl
  | 6 => rfl
  | w + 7 => rfl
theorem sHap_7 (h : xS) (I : xI) (w : Nat) (x y : Int32) (s : Nat × xX) (h7 : sBo (s.2 0 7)) : sBo ((sHap h I w x y s).2 0 7) := by
  match w with
  | 0 => show sBo (sTail _ _ _ _ (sNew s.2) 0 7); rw [sTail_7]; exact Or.inl rfl
  | 1 => show sBo (sTail _ _ _ _ (up2 s.2 1 _ y) 0 7); rw [sTail_7, up2_f _ _ _ (by decide)]; exact h7
  | 2 => show sBo (sTail _ _ _ _ (up2 s.2 0 8 x) 0 7); rw [sTail_7, up2_k _ _ _ (by decide)]; exact h7
  | 3 => show sBo (sTail _ _ _ _ (sEnd _ _ s.2 _ 99) 0 7); rw [sTail_7]; exact h7
  | 4 => show sBo (sTail _ _ _ _ (up2 s.2 0 7 1) 0 7); rw [sTail_7, up2_at]; exact Or.inr rfl
  | 5 => show sBo (sTail _ _ _ _ (up2 s.2 0 7 0) 0 7); rw [sTail_7, up2_at]; exact Or.inl rfl
  | 6 => show sBo (sTail _ _ _ _ s.2 0 7); rw [sTail_7]; exact h7
  | w + 7 =>
    show sBo (sTail _ _ _ _ (sOld _ _ s.2) 0 7)
    rw [sTail_7]
    have e : ∀ P n, sOld P n s.2 0 7 = s.2 0 7 := fun P n => by
      unfold sOld
      split
      · unfold sOldT; rw [if_neg (by omega)]; exact up2_k _ _ _ (by decide)
      · exact up2_k _ _ _ (by decide)
    rw [e]; exact h7
theorem sItr7_7 (h : xS) (I : xI) (s : Nat × xX) (h7 : sBo (s.2 0 7)) : ∀ t, sBo ((sItr h I 7 0 0 t s).2 0 7)
  | 0 => h7
  | t + 1 => sHap_7 h I 7 0 0 (sItr h I 7 0 0 t s) (sItr7_7 h I s h7 t)
theorem sJV.congr {us : Nat → Prop} {h h' : xS} {I I' : xI} {c : Int32} {s0 : Nat × xX} {jn : Nat} (hJ : sJV h I c (false, s0) jn) (hu : sUs us h h' I I') (hr : ∀ r, r < jn → I' [4, 0] r = I [4, 0] r ∧ I' [4, 1] r = I [4, 1] r ∧ I' [4, 2] r = I [4, 2] r ∧ I' [4, 3] r = I [4, 3] r) (hj : sJu us I jn) (hw : ∀ r, r < jn → ∃ w : Nat, w ≤ 7 ∧ I [4, 1] r = nI w ∧ (w ≠ 7 ∨ (1 ≤ sTim I r)))
    (hp : sNp h ≤ sNp h') (hs : ∀ q, q < sNp h → sSz h q ≤ sSz h' q) : sJV h' I' c (false, s0) jn := by
  intro k hk hb hc
  have R := (sRep_congr hu hr hj hw c s0 k (by omega)).1
  rw [R] at hb ⊢
  obtain ⟨q0, q1, q2, q3⟩ := hr k hk
  have eB : ∀ z, sBeg I' c z k = sBeg I c z k := fun z => by unfold sBeg; rw [q0, q1]
  rw [eB] at hb
  rw [q0] at hc
  obtain ⟨w, h7, h8, h9, hv⟩ := hJ k hk hb hc
  refine ⟨w, h7, by rw [q1]; exact h8, fun z => ?_, by rw [q2]; exact sVal_mono hp hs hv⟩
  obtain ⟨d9, d10, d11⟩ := h9 z
  exact ⟨d9, d10, by rw [q2]; exact d11⟩
theorem sJV.snoc {h : xS} {I : xI} {c : Int32} {s0 : Bool × (Nat × xX)} {jn : Nat} (hJ : sJV h I c s0 jn) (hl : sBeg I c (sRep h I c s0 jn).1 jn = true → (I [4, 0] jn = c ∨ I [4, 0] jn = -1) → ∃ w : Nat, w ≤ 7 ∧ I [4, 1] jn = nI w ∧ (w = 7 → sDy I jn) ∧ sVal h w (I [4, 2] jn) (sRep h I c s0 jn).2.1) : sJV h I c s0 (jn + 1) := fun r hr hb hc => by
  by_cases e : r = jn
  · subst e; exact hl hb hc
  · exact hJ r (by omega) hb hc
/-- a row of another case -/
theorem LJr.skip {h : xS} {I : xI} {c jn : Nat} (hJ : LJr h I c jn) (h1 : I [4, 0] jn ≠ nI c) (h2 : I [4, 0] jn ≠ -1) : LJr h I c (jn + 1) := by
  intro p X hX
  obtain ⟨a, b, d, f⟩ := hJ p X hX
  have e : sRep h I (nI c) (false, (p, X)) (jn + 1) = sRep h I (nI c) (false, (p, X)) jn := by
    show (if _ ∧ (I [4, 0] jn = nI c ∨ I [4, 0] jn = -1) then _ else (sBeg I (nI c) (sRep h I (nI c) (false, (p, X)) jn).1 jn, (sRep h I (nI c) (false, (p, X)) jn).2)) = _
    rw [if_neg (fun z => z.2.elim h1 h2)]
    refine Prod.ext ?_ rfl
    show (_ || _) = _
    rw [b]; rfl
  rw [e]
  exact ⟨a.snoc (fun _ z => (z.elim h1 h2).elim), b, d, f⟩
theorem sTail_8 (P : Nat → Nat → Int32) (C : Nat → Nat → Nat → Nat → Int32) (cn : Nat → Nat → Nat) (n : Nat) (X : xX) : sTail P C cn n X 0 8 = -1 := up2_at _ _ _ _
theorem sItr_ev {h : xS} {I : xI} {p : Nat} {X : xX} (hX : X 0 8 = -1) : ∀ t, (sItr h I 7 0 0 t (p, X)).2 0 8 = -1
  | 0 => hX
  | t + 1 => by
    show sTail (vP I (sItr h I 7 0 0 t (p, X)).1) (vC I (sItr h I 7 0 0 t (p, X)).1) (sCn h (sItr h I 7 0 0 t (p, X)).1) (sSz h (sItr h I 7 0 0 t (p, X)).1) (sOld (vP I (sItr h I 7 0 0 t (p, X)).1) (sSz h (sItr h I 7 0 0 t (p, X)).1) (sItr h I 7 0 0 t (p, X)).2) 0 8 = -1
    exact sTail_8 _ _ _ _ _
theorem arrV_ext {ca : ClassId} {N : Nat} {f f' : Nat → Value} (h : ∀ j, j < N → f j = f' j) : arrV ca N f = arrV ca N f' := by
  unfold arrV
  exact congrArg (fun z => ({ cls := ca, slots := z, vm := .none } : Cell)) (congrArg Array.ofFn (funext fun j => h j.val j.isLt))
/-- what is said of the plans stays: but a plan may be marked as used -/
def pL0 (id : List Nat) : Bool := match id with
  | [7, _, _] => true
  | [8, _, _, _] => true
  | [10, _, _, _, _] => true
  | _ => false
theorem LPa.mark {h h' : xS} {I I' : xI} (hL : LPa h I) (hn : sNp h' = sNp h) (hs : sSz h' = sSz h) (hcn : sCn h' = sCn h) (e : ∀ id, pL0 id = true → I' id = I id) (e50 : ∀ p k, k ≠ 3 → I' [5, p] k = I [5, p] k) (e53 : ∀ p, p < sNp h → sBo (I' [5, p] 3)) (e01 : I' [0] 1 = I [0] 1) : LPa h' I' := by
  obtain ⟨⟨a, b, c⟩, f⟩ := hL
  have e7 : ∀ p j, I' [7, p, j] = I [7, p, j] := fun p j => e _ rfl
  have e8 : ∀ p j w, I' [8, p, j, w] = I [8, p, j, w] := fun p j w => e _ rfl
  have e10' : ∀ p j w k, I' [10, p, j, w, k] = I [10, p, j, w, k] := fun p j w k => e _ rfl
  refine ⟨⟨by rw [hn]; exact a, by rw [hn, e01]; exact b, fun p hp => ?_⟩, fun p hp => ?_⟩
  · have w := c p (by rw [hn] at hp; exact hp)
    unfold xWp xWs at *
    rw [hs, hcn, e50 p 0 (by decide), e50 p 2 (by decide)]
    simp only [e7, e8, e10']
    exact w
  · rw [hn] at hp
    obtain ⟨m3, m4⟩ := f p hp
    exact ⟨e53 p hp, by rw [hs]; simp only [e7]; exact m4⟩
/-- something happens to the case c: the thing w -/
theorem LV.hap {h h' : xS} {I I' : xI} {jn c w : Nat} {x y : Int32} {X X' : xX} (hL : LV h I jn) (hj : jn < 512) (hc : c < sNc h) (hw : 1 ≤ w ∧ w ≤ 6) (hX : ∃ r, X = rq3 (gX I c) r) (hX' : X' = (sHap h I w x y (sPl h c, X)).2) (hv : sVal h w x (sPl h c)) (hQ : uX_ (10 * (jn + 1)) X')
    (hNp : sNp h' = sNp h) (hNc : sNc h' = sNc h) (hSz : sSz h' = sSz h) (hCn : sCn h' = sCn h) (hPc : sPl h' c = (sHap h I w x y (sPl h c, X)).1) (hPd : ∀ d, d ≠ c → sPl h' d = sPl h d)
    (eL : ∀ id, pL0 id = true → I' id = I id) (e50 : ∀ p k, k ≠ 3 → I' [5, p] k = I [5, p] k) (e53 : ∀ p, p < sNp h → sBo (I' [5, p] 3)) (e5u : ∀ p, ¬ I [5, p] 3 = 0 → ¬ I' [5, p] 3 = 0)
    (hnew : 0 < sSz h (sPl h' c) ∧ sPl h' c < sNp h ∧ ¬ I' [5, sPl h' c] 3 = 0) (hx6 : w = 6 → ∃ q, q < sNp h ∧ x = nI q ∧ ¬ I' [5, q] 3 = 0)
    (e01 : I' [0] 1 = I [0] 1) (e03 : I' [0] 3 = I [0] 3) (e3 : I' [3] 4 = nI (jn + 1))
    (eJ : ∀ r, r < jn → I' [4, 0] r = I [4, 0] r ∧ I' [4, 1] r = I [4, 1] r ∧ I' [4, 2] r = I [4, 2] r ∧ I' [4, 3] r = I [4, 3] r) (eJn : I' [4, 0] jn = nI c ∧ I' [4, 1] jn = nI w ∧ I' [4, 2] jn = x ∧ I' [4, 3] jn = y)
    (eX : gX I' c = X') (eXd : ∀ d, d ≠ c → gX I' d = gX I d) : LV h' I' (jn + 1) := by
  obtain ⟨a, ⟨⟨b1, b2, b3⟩, b6⟩, k, ⟨j1, ⟨j2, j3, j4⟩, j5⟩, f⟩ := hL
  have h3 := a.1.1
  have hP := a.mark hNp hSz hCn eL e50 e53 e01
  have us : sUs (fun _ => True) h h' I I' := fun p _ => ⟨funext fun q => eL _ rfl, funext fun q => funext fun v => funext fun z => eL _ rfl, by rw [hSz], by rw [hCn]⟩
  have ju : sJu (fun _ => True) I jn := fun _ _ _ => trivial
  obtain ⟨r0', hX0⟩ := hX
  have hw0 : w ≠ 7 := by omega
  have hI7 : ¬ I' [4, 1] jn = 7 := by rw [eJn.2.1]; exact fun z => hw0 ((nI_eq (a := w) (b := 7) (by omega) (by omega)).mp z)
  have hch : xCh X := by rw [hX0]; exact fun q => (b3 c hc).2 q
  obtain ⟨g1, g3, g4, g5⟩ := b6 c hc
  refine ⟨hP, ⟨⟨by rw [hNc]; exact b1, by rw [hNc, e03]; exact b2, fun d hd => ?_⟩, fun d hd => ?_⟩, fun d hd => ?_, ⟨e3, ⟨fun r hr => ?_, fun r hr z => ?_, fun r hr => ?_⟩, fun d hd => ?_⟩, ?_⟩
  · by_cases e : d = c
    · subst e; rw [eX, hNp]; exact ⟨hnew.2.1, by rw [hX']; exact xCh.hap (s := (_, X)) hch⟩
    · rw [eXd d e, hPd d e, hNp]; exact b3 d (by omega)
  · by_cases e : d = c
    · subst e
      exact ⟨by rw [eX, hX']; exact sHap_8 _ _ _ _ _ _, by rw [eX, hX']; exact sHap_7 _ _ _ _ _ (sPl h d, X) (by rw [hX0]; exact g3), by rw [hSz]; exact hnew.1, hnew.2.2⟩
    · obtain ⟨v1, v3, v4, v5⟩ := b6 d (by omega)
      exact ⟨by rw [eXd d e]; exact v1, by rw [eXd d e]; exact v3, by rw [hSz, hPd d e]; exact v4, by rw [hPd d e]; exact e5u _ v5⟩
  · by_cases e : d = c
    · subst e; rw [eX]; exact hQ
    · rw [eXd d e]; exact (k d (by omega)).mono (by omega)
  · by_cases e : r = jn
    · subst e; exact Or.inr ⟨c, by omega, eJn.1⟩
    · rw [(eJ r (by omega)).1, hNc]; exact j2 r (by omega)
  · by_cases e : r = jn
    · subst e
      rw [eJn.2.1] at z
      have h6 : w = 6 := by
        rcases z with z | z
        · exact absurd ((nI_eq (a := w) (b := 0) (by omega) (by omega)).mp z) (by omega)
        · exact (nI_eq (a := w) (b := 6) (by omega) (by omega)).mp z
      rw [eJn.2.2.1, hNp]; exact hx6 h6
    · obtain ⟨q1, q2, q3, q4⟩ := eJ r (by omega)
      rw [q2] at z
      obtain ⟨q, y1, y2, y3⟩ := j3 r (by omega) z
      exact ⟨q, by omega, by rw [q3]; exact y2, e5u q y3⟩
  · by_cases e : r = jn
    · subst e; exact ⟨w, by omega, eJn.2.1, Or.inl hw0⟩
    · obtain ⟨q1, q2, q3, q4⟩ := eJ r (by omega)
      unfold sTim
      rw [q2, q3]; exact j4 r (by omega)
  · have hd' : d < sNc h := by omega
    by_cases e : d = c
    · subst e
      intro p0 X0 hX00
      obtain ⟨m1, m2, m3, r9, m4⟩ := j5 d hc p0 X0 hX00
      have R := (sRep_congr us eJ ju j4 (nI d) (p0, X0) jn (Nat.le_refl _)).1
      have J' := m1.congr us eJ ju j4 (by omega) (fun q _ => by rw [hSz]; exact Nat.le_refl _)
      obtain ⟨S, hS⟩ : ∃ S, S = sRep h I (nI d) (false, (p0, X0)) jn := ⟨_, rfl⟩
      rw [← hS] at R m2 m3 m4
      have hS2 : S.2 = (sPl h d, rq3 (gX I d) r9) := Prod.ext m3 m4
      have hb : sBeg I' (nI d) S.1 jn = true := by unfold sBeg; rw [m2]; rfl
      have hstep : sHap h' I' w x y (sPl h d, rq3 (gX I d) r9) = ((sHap h I w x y (sPl h d, X)).1, rq3 X' r9) := by
        rw [(sHap_congr us (w := w) (x := x) (y := y) (s := (sPl h d, rq3 (gX I d) r9)) (Or.inl ⟨by omega, trivial⟩) (fun _ => trivial)).1, sHap_rq3 h I hw.1, hX', hX0, sHap_rq3 h I hw.1 x y (sPl h d) (gX I d) r0']
        show (_, _) = (_, rq3 (rq3 _ r0') r9)
        rw [rq3_rq3]
      have E : sRep h' I' (nI d) (false, (p0, X0)) (jn + 1) = (true, sHap h' I' w x y (sPl h d, rq3 (gX I d) r9)) := by
        show (if sBeg I' (nI d) (sRep h' I' (nI d) (false, (p0, X0)) jn).1 jn = true ∧ (I' [4, 0] jn = nI d ∨ I' [4, 0] jn = -1) then (sBeg I' (nI d) (sRep h' I' (nI d) (false, (p0, X0)) jn).1 jn, sItr h' I' (I' [4, 1] jn).toNatClampNeg (I' [4, 2] jn) (I' [4, 3] jn) (sTim I' jn) (sRep h' I' (nI d) (false, (p0, X0)) jn).2) else _) = _
        rw [R, hb, if_pos ⟨rfl, Or.inl eJn.1⟩, sTim_1 hI7, eJn.2.1, eJn.2.2.1, eJn.2.2.2, nI_clamp (by omega), hS2]
        rfl
      rw [E, hstep]
      refine ⟨J'.snoc (fun _ _ => ⟨w, by omega, eJn.2.1, fun z => absurd z hw0, ?_⟩), rfl, hPc.symm, r9, by rw [eX]⟩
      rw [R, eJn.2.2.1, hS2]
      exact sVal_mono (by omega) (fun q _ => by rw [hSz]; exact Nat.le_refl _) hv
    · refine ((j5 d hd').congr us eJ ju j4 (by omega) (fun q _ => by rw [hSz]; exact Nat.le_refl _) (eXd d e) (hPd d e)).skip ?_ ?_
      · rw [eJn.1]; exact fun z => e ((nI_eq (a := c) (b := d) (by omega) (by omega)).mp z).symm
      · rw [eJn.1]; exact nI_m1 (by omega)
  · rw [eXd 4 (by omega)]; exact f
/-- days pass for all -/
theorem LV.days {h : xS} {I I' : xI} {jn d : Nat} (hL : LV h I jn) (hj : jn < 512) (hd : 1 ≤ d ∧ d ≤ 10)
    (eL : ∀ id, pL0 id = true → I' id = I id) (e5 : ∀ p, I' [5, p] = I [5, p]) (e01 : I' [0] 1 = I [0] 1) (e03 : I' [0] 3 = I [0] 3) (e3 : I' [3] 4 = nI (jn + 1))
    (eJ : ∀ r, r < jn → I' [4, 0] r = I [4, 0] r ∧ I' [4, 1] r = I [4, 1] r ∧ I' [4, 2] r = I [4, 2] r ∧ I' [4, 3] r = I [4, 3] r) (eJn : I' [4, 0] jn = -1 ∧ I' [4, 1] jn = 7 ∧ I' [4, 2] jn = nI d)
    (eX : ∀ c, c < sNc h → gX I' c = (sItr h I 7 0 0 d (sPl h c, gX I c)).2) (eX4 : gX I' 4 = gX I 4) : LV h I' (jn + 1) := by
  obtain ⟨a, ⟨⟨b1, b2, b3⟩, b6⟩, k, ⟨j1, ⟨j2, j3, j4⟩, j5⟩, f⟩ := hL
  have h3 := a.1.1
  have hP := a.mark (h' := h) rfl rfl rfl eL (fun p q _ => by rw [e5]) (fun p hp => by rw [e5]; exact (a.2 p hp).1) e01
  have us : sUs (fun _ => True) h h I I' := fun p _ => ⟨funext fun q => eL _ rfl, funext fun q => funext fun v => funext fun z => eL _ rfl, rfl, rfl⟩
  have ju : sJu (fun _ => True) I jn := fun _ _ _ => trivial
  have ht : sTim I' jn = d := sTim_7 eJn.2.1 eJn.2.2 hd.2
  refine ⟨hP, ⟨⟨b1, by rw [e03]; exact b2, fun c hc => ⟨(b3 c hc).1, by rw [eX c hc]; exact xCh.itr d (s := (sPl h c, gX I c)) (b3 c hc).2⟩⟩, fun c hc => ?_⟩, fun c hc => ?_, ⟨e3, ⟨fun r hr => ?_, fun r hr z => ?_, fun r hr => ?_⟩, fun c hc => ?_⟩, by rw [eX4]; exact f⟩
  · obtain ⟨v1, v3, v4, v5⟩ := b6 c hc
    exact ⟨by rw [eX c hc]; exact sItr_ev v1 d, by rw [eX c hc]; exact sItr7_7 h I (sPl h c, gX I c) v3 d, v4, by rw [e5]; exact v5⟩
  · rw [eX c hc]
    exact (uX_.itr (h := h) (I := I) (a.1.2.2 _ (b3 c hc).1).1 (k c hc) d (by omega)).mono (by omega)
  · by_cases e : r = jn
    · subst e; exact Or.inl eJn.1
    · rw [(eJ r (by omega)).1]; exact j2 r (by omega)
  · by_cases e : r = jn
    · subst e
      rw [eJn.2.1] at z
      rcases z with z | z <;> exact absurd z (by decide)
    · obtain ⟨q1, q2, q3, q4⟩ := eJ r (by omega)
      rw [q2] at z
      obtain ⟨q, y1, y2, y3⟩ := j3 r (by omega) z
      exact ⟨q, y1, by rw [q3]; exact y2, by rw [e5]; exact y3⟩
  · by_cases e : r = jn
    · subst e; exact ⟨7, by omega, eJn.2.1, Or.inr (by rw [ht]; exact hd.1)⟩
    · obtain ⟨q1, q2, q3, q4⟩ := eJ r (by omega)
      unfold sTim
      rw [q2, q3]; exact j4 r (by omega)
  · intro p0 X0 hX00
    obtain ⟨m1, m2, m3, r9, m4⟩ := j5 c hc p0 X0 hX00
    have R := (sRep_congr us eJ ju j4 (nI c) (p0, X0) jn (Nat.le_refl _)).1
    have J' := m1.congr us eJ ju j4 (Nat.le_refl _) (fun q _ => Nat.le_refl _)
    obtain ⟨S, hS⟩ : ∃ S, S = sRep h I (nI c) (false, (p0, X0)) jn := ⟨_, rfl⟩
    rw [← hS] at R m2 m3 m4
    have hS2 : S.2 = (sPl h c, rq3 (gX I c) r9) := Prod.ext m3 m4
    have hb : sBeg I' (nI c) S.1 jn = true := by unfold sBeg; rw [m2]; rfl
    have E : sRep h I' (nI c) (false, (p0, X0)) (jn + 1) = (true, (sPl h c, rq3 (gX I' c) r9)) := by
      show (if sBeg I' (nI c) (sRep h I' (nI c) (false, (p0, X0)) jn).1 jn = true ∧ (I' [4, 0] jn = nI c ∨ I' [4, 0] jn = -1) then (sBeg I' (nI c) (sRep h I' (nI c) (false, (p0, X0)) jn).1 jn, sItr h I' (I' [4, 1] jn).toNatClampNeg (I' [4, 2] jn) (I' [4, 3] jn) (sTim I' jn) (sRep h I' (nI c) (false, (p0, X0)) jn).2) else _) = _
      rw [R, hb, if_pos ⟨rfl, Or.inr eJn.1⟩, ht, eJn.2.1, hS2, show (7 : Int32).toNatClampNeg = 7 from rfl, sItr7_x,
        (sItr_congr us (w := 7) (x := 0) (y := 0) (s := (sPl h c, rq3 (gX I c) r9)) (Or.inl ⟨by decide, trivial⟩) (fun _ => trivial) d).1, sItr_rq3 h I (by omega), sItr7_1, eX c hc]
    rw [E]
    refine ⟨J'.snoc (fun _ _ => ⟨7, by omega, eJn.2.1, fun _ => ⟨d, hd.2, eJn.2.2⟩, ?_⟩), rfl, rfl, r9, rfl⟩
    rw [R, hS2]
    exact (b3 c hc).1
/-! A CASE BEGINS; WHAT IS REPLAYED -/
/-- the numbers of a case that isn't begun are of no account -/
def lvJ (c : Nat) (id : List Nat) : Bool := match id with
  | [11, d, _] => decide (d ≠ c)
  | _ => true
theorem lvJ_11 {c d f : Nat} (h : d ≠ c) : lvJ c [11, d, f] = true := decide_eq_true h
theorem pL_lvJ {c : Nat} {id : List Nat} (h : pL id = true) : lvJ c id = true := by
  unfold lvJ
  split
  · exfalso; revert h; simp [pL]
  · rfl
theorem LV.zero {h : xS} {I I' : xI} {jn q : Nat} (hL : LV h I jn) (hq : sNc h ≤ q) (hq4 : q < 4) (e : ∀ id, lvJ q id = true → I' id = I id) : LV h I' jn := by
  obtain ⟨⟨⟨a1, a2, a3⟩, a5⟩, ⟨⟨b1, b2, b3⟩, b6⟩, k, ⟨d1, d2, d3⟩, f⟩ := hL
  have e4 : ∀ k, I' [4, k] = I [4, k] := fun k => e _ rfl
  have e5 : ∀ k, I' [5, k] = I [5, k] := fun k => e _ rfl
  have eP : ∀ id, pL id = true → I' id = I id := fun id hi => e id (pL_lvJ hi)
  have gx : ∀ d, d ≠ q → gX I' d = gX I d := fun d hd => funext fun k => e _ (lvJ_11 hd)
  refine ⟨⟨⟨a1, by rw [e _ rfl]; exact a2, fun p hp => (a3 p hp).sameL eP (fun k _ => by rw [e5])⟩, fun p hp => (a5 p hp).same (fun j => e _ rfl) (e5 p)⟩, ⟨⟨b1, by rw [e _ rfl]; exact b2, fun c hc => ⟨(b3 c hc).1, by rw [gx c (by omega)]; exact (b3 c hc).2⟩⟩, fun c hc => ?_⟩, fun c hc => by rw [gx c (by omega)]; exact k c hc, ⟨by rw [e _ rfl]; exact d1, ?_, fun c hc => ?_⟩, by rw [gx 4 (by omega)]; exact f⟩
  · have v := b6 c hc
    unfold LCc at *
    rw [gx c (by omega), e5]; exact v
  · obtain ⟨x1, x2, x3⟩ := d2
    refine ⟨fun r hr => by rw [e4]; exact x1 r hr, fun r hr z => ?_, fun r hr => ?_⟩
    · rw [e4] at z
      obtain ⟨p, y1, y2, y3⟩ := x2 r hr z
      exact ⟨p, y1, by rw [e4]; exact y2, by rw [e5]; exact y3⟩
    · obtain ⟨w, y1, y2, y3⟩ := x3 r hr
      exact ⟨w, y1, by rw [e4]; exact y2, by unfold sTim at *; rw [e4, e4]; exact y3⟩
  · exact (d3 c hc).congr (us := fun _ => True) (fun p _ => ⟨vP_sameL eP p, vC_sameL eP p, rfl, rfl⟩) (fun r _ => by rw [e4, e4, e4, e4]; exact ⟨rfl, rfl, rfl, rfl⟩) (fun _ _ _ => trivial) d2.2.2 (Nat.le_refl _) (fun _ _ => Nat.le_refl _) (gx c (by omega)) rfl
/-- the case c begins with the plan p -/
theorem LV.begin {h h' : xS} {I I' : xI} {jn c p : Nat} {Xf : xX} (hL : LV h I jn) (hj : jn < 512) (hc : c = sNc h) (h4 : c < 4) (hp : p < sNp h) (hz : 0 < sSz h p) (hXf : nrm Xf = Xf) (hch : xCh Xf)
    (hNp : sNp h' = sNp h) (hNc : sNc h' = sNc h + 1) (hSz : sSz h' = sSz h) (hCn : sCn h' = sCn h) (hPc : sPl h' c = p) (hPd : ∀ d, d ≠ c → sPl h' d = sPl h d)
    (eL : ∀ id, pL0 id = true → I' id = I id) (e50 : ∀ q k, k ≠ 3 → I' [5, q] k = I [5, q] k) (e53 : ∀ q, q < sNp h → sBo (I' [5, q] 3)) (e5u : ∀ q, ¬ I [5, q] 3 = 0 → ¬ I' [5, q] 3 = 0) (e5p : ¬ I' [5, p] 3 = 0)
    (e01 : I' [0] 1 = I [0] 1) (e03 : I' [0] 3 = nI (c + 1)) (e3 : I' [3] 4 = nI (jn + 1))
    (eJ : ∀ r, r < jn → I' [4, 0] r = I [4, 0] r ∧ I' [4, 1] r = I [4, 1] r ∧ I' [4, 2] r = I [4, 2] r ∧ I' [4, 3] r = I [4, 3] r) (eJn : I' [4, 0] jn = nI c ∧ I' [4, 1] jn = 0 ∧ I' [4, 2] jn = nI p)
    (eX : gX I' c = (sHap h I 0 (nI p) 0 (p, Xf)).2) (eXd : ∀ d, d ≠ c → gX I' d = gX I d) : LV h' I' (jn + 1) := by
  obtain ⟨a, ⟨⟨b1, b2, b3⟩, b6⟩, k, ⟨j1, ⟨j2, j3, j4⟩, j5⟩, f⟩ := hL
  have h3 := a.1.1
  have hP := a.mark hNp hSz hCn eL e50 e53 e01
  have us : sUs (fun _ => True) h h' I I' := fun p _ => ⟨funext fun q => eL _ rfl, funext fun q => funext fun v => funext fun z => eL _ rfl, by rw [hSz], by rw [hCn]⟩
  have ju : sJu (fun _ => True) I jn := fun _ _ _ => trivial
  have hI7 : ¬ I' [4, 1] jn = 7 := by rw [eJn.2.1]; decide
  have hcl : (nI p).toNatClampNeg = p := nI_clamp (by omega)
  have nc : ∀ r, r < jn → ¬ I [4, 0] r = nI c := fun r hr z => by
    rcases j2 r hr with y | ⟨d, hd, y⟩
    · exact nI_m1 (q := c) (by omega) (z.symm.trans y)
    · exact absurd ((nI_eq (a := c) (b := d) (by omega) (by omega)).mp (z.symm.trans y)) (by omega)
  refine ⟨hP, ⟨⟨by rw [hNc]; omega, by rw [hNc, e03, hc], fun d hd => ?_⟩, fun d hd => ?_⟩, fun d hd => ?_, ⟨e3, ⟨fun r hr => ?_, fun r hr z => ?_, fun r hr => ?_⟩, fun d hd => ?_⟩, ?_⟩
  · by_cases e : d = c
    · rw [e, eX, hPc, hNp]; exact ⟨hp, xCh.hap (s := (p, Xf)) hch⟩
    · rw [eXd d e, hPd d e, hNp]; exact b3 d (by omega)
  · by_cases e : d = c
    · rw [e]
      refine ⟨by rw [eX]; exact sHap_8 _ _ _ _ _ _, ?_, by rw [hSz, hPc]; exact hz, by rw [hPc]; exact e5p⟩
      rw [eX]
      show sBo (sTail _ _ _ _ (sNew Xf) 0 7)
      rw [sTail_7]; exact Or.inl rfl
    · obtain ⟨v1, v3, v4, v5⟩ := b6 d (by omega)
      exact ⟨by rw [eXd d e]; exact v1, by rw [eXd d e]; exact v3, by rw [hSz, hPd d e]; exact v4, by rw [hPd d e]; exact e5u _ v5⟩
  · by_cases e : d = c
    · rw [e, eX]
      show uX_ _ (sTail _ _ _ _ (sNew Xf))
      refine (uX_.new Xf _ _ _ ?_).mono (by omega)
      rw [hcl]; exact (a.1.2.2 p hp).1
    · rw [eXd d e]; exact (k d (by omega)).mono (by omega)
  · by_cases e : r = jn
    · subst e; exact Or.inr ⟨c, by omega, eJn.1⟩
    · rw [(eJ r (by omega)).1, hNc]
      rcases j2 r (by omega) with y | ⟨d, hd, y⟩
      · exact Or.inl y
      · exact Or.inr ⟨d, by omega, y⟩
  · by_cases e : r = jn
    · subst e
      exact ⟨p, by omega, eJn.2.2, e5p⟩
    · obtain ⟨q1, q2, q3, q4⟩ := eJ r (by omega)
      rw [q2] at z
      obtain ⟨q, y1, y2, y3⟩ := j3 r (by omega) z
      exact ⟨q, by omega, by rw [q3]; exact y2, e5u q y3⟩
  · by_cases e : r = jn
    · subst e; exact ⟨0, by omega, eJn.2.1, Or.inl (by decide)⟩
    · obtain ⟨q1, q2, q3, q4⟩ := eJ r (by omega)
      unfold sTim
      rw [q2, q3]; exact j4 r (by omega)
  · by_cases e : d = c
    · rw [e]
      intro p0 X0 hX00
      have S0 : ∀ r, r ≤ jn → sRep h I (nI c) (false, (p0, X0)) r = (false, (p0, X0)) := fun r => by
        induction r with
        | zero => intro _; rfl
        | succ r ih =>
          intro hr
          have e := ih (by omega)
          have hb : sBeg I (nI c) false r = false := by
            unfold sBeg
            rw [decide_eq_false (nc r (by omega))]; rfl
          show (if sBeg I (nI c) (sRep h I (nI c) (false, (p0, X0)) r).1 r = true ∧ _ then _ else (sBeg I (nI c) (sRep h I (nI c) (false, (p0, X0)) r).1 r, (sRep h I (nI c) (false, (p0, X0)) r).2)) = _
          rw [e, hb, if_neg (fun z => by cases z.1)]
      have R := ((sRep_congr us eJ ju j4 (nI c) (p0, X0) jn (Nat.le_refl _)).1).trans (S0 jn (Nat.le_refl _))
      have J0 : sJV h I (nI c) (false, (p0, X0)) jn := fun r hr hb _ => by
        rw [S0 r (by omega)] at hb
        unfold sBeg at hb
        rw [decide_eq_false (nc r hr)] at hb
        cases hb
      have J' := J0.congr us eJ ju j4 (by omega) (fun q _ => by rw [hSz]; exact Nat.le_refl _)
      have hb : sBeg I' (nI c) false jn = true := by unfold sBeg; rw [decide_eq_true eJn.1, decide_eq_true eJn.2.1]; rfl
      have hstep : sHap h' I' 0 (nI p) (I' [4, 3] jn) (p0, X0) = (p, rq3 (gX I' c) (X0 3)) := by
        rw [(sHap_congr us (w := 0) (x := nI p) (y := I' [4, 3] jn) (s := (p0, X0)) (Or.inr rfl) (fun _ => trivial)).1, sHap0_nrm h I (nI p) (I' [4, 3] jn) p0 p hX00 hXf, eX]
        show ((nI p).toNatClampNeg, _) = _
        rw [hcl]; rfl
      have E : sRep h' I' (nI c) (false, (p0, X0)) (jn + 1) = (true, (p, rq3 (gX I' c) (X0 3))) := by
        show (if sBeg I' (nI c) (sRep h' I' (nI c) (false, (p0, X0)) jn).1 jn = true ∧ (I' [4, 0] jn = nI c ∨ I' [4, 0] jn = -1) then (sBeg I' (nI c) (sRep h' I' (nI c) (false, (p0, X0)) jn).1 jn, sItr h' I' (I' [4, 1] jn).toNatClampNeg (I' [4, 2] jn) (I' [4, 3] jn) (sTim I' jn) (sRep h' I' (nI c) (false, (p0, X0)) jn).2) else _) = _
        rw [R, hb, if_pos ⟨rfl, Or.inl eJn.1⟩, sTim_1 hI7, eJn.2.1, eJn.2.2, show (0 : Int32).toNatClampNeg = 0 from rfl, ← hstep]
        rfl
      rw [E]
      refine ⟨J'.snoc (fun _ _ => ⟨0, by omega, eJn.2.1, fun z => absurd z (by decide), ?_⟩), rfl, hPc.symm, X0 3, rfl⟩
      rw [eJn.2.2]
      exact ⟨p, by omega, rfl⟩
    · refine ((j5 d (by omega)).congr us eJ ju j4 (by omega) (fun q _ => by rw [hSz]; exact Nat.le_refl _) (eXd d e) (hPd d e)).skip ?_ ?_
      · rw [eJn.1]; exact fun z => e ((nI_eq (a := c) (b := d) (by omega) (by omega)).mp z).symm
      · rw [eJn.1]; exact nI_m1 (by omega)
  · rw [eXd 4 (by omega)]; exact f
/-- which plan the replayed case has is of no account; nor how many rows the law has -/
theorem LV.hp4 {h h' : xS} {I : xI} {jn : Nat} (hL : LV h I jn) (e1 : sNp h' = sNp h) (e2 : sNc h' = sNc h) (e3 : sSz h' = sSz h) (e4 : sCn h' = sCn h) (e5 : ∀ c, c < 4 → sPl h' c = sPl h c) : LV h' I jn := by
  obtain ⟨⟨⟨a1, a2, a3⟩, a4⟩, ⟨⟨b1, b2, b3⟩, b6⟩, k, ⟨d1, ⟨d2, d2', d2''⟩, d3⟩, f⟩ := hL
  have ep : ∀ c, c < sNc h → sPl h' c = sPl h c := fun c hc => e5 c (by omega)
  refine ⟨⟨⟨by rw [e1]; exact a1, by rw [e1]; exact a2, fun p hp => ?_⟩, fun p hp => ?_⟩, ⟨⟨by rw [e2]; exact b1, by rw [e2]; exact b2, fun c hc => ?_⟩, fun c hc => ?_⟩, fun c hc => k c (by omega), ⟨d1, ⟨fun r hr => by rw [e2]; exact d2 r hr, fun r hr z => by rw [e1]; exact d2' r hr z, d2''⟩, fun c hc => ?_⟩, f⟩
  · have w := a3 p (by omega)
    unfold xWp xWs at *
    rw [e3, e4]; exact w
  · have w := a4 p (by omega)
    unfold LPl at *
    rw [e3]; exact w
  · rw [e2] at hc
    rw [ep c hc, e1]; exact b3 c hc
  · rw [e2] at hc
    obtain ⟨v1, v3, v4, v5⟩ := b6 c hc
    exact ⟨v1, v3, by rw [ep c hc, e3]; exact v4, by rw [ep c hc]; exact v5⟩
  · rw [e2] at hc
    exact (d3 c hc).congr (us := fun _ => True) (fun p _ => ⟨rfl, rfl, by rw [e3], by rw [e4]⟩) (fun r _ => ⟨rfl, rfl, rfl, rfl⟩) (fun _ _ _ => trivial) d2'' (by omega) (fun q _ => by rw [e3]; exact Nat.le_refl _) rfl (ep c hc)
/-- beyond the rows' lengths the replayed case's numbers may be what they like -/
theorem xR.nrm4 {g : xG} {h : xS} {I : xI} {n : Nat} {H : Heap} (hH : xR g (xD h) I (xFh h) n H) : xR g (xD h) (sX I 4 (nrm (gX I 4))) (xFh h) n H := by
  obtain ⟨h0, h1, h2, h3, h4⟩ := hH
  refine ⟨h0, fun id hi => ?_, h2, h3, h4⟩
  rcases sX_cases I 4 (nrm (gX I 4)) id with ⟨f, rfl, e⟩ | ⟨-, e⟩
  · have hf : f < 6 := hi.2
    have hx := h1 _ hi
    rw [e]
    rcases (show f = 0 ∨ f = 1 ∨ f = 2 ∨ f = 3 ∨ f = 4 ∨ f = 5 by omega) with r | r | r | r | r | r <;> subst r
    · refine (xat_obj (id := [11, 4, 0]) (ci := 0) rfl (by decide) rfl).mpr (((xat_obj (id := [11, 4, 0]) (ci := 0) rfl (by decide) rfl).mp hx).to (fun k (hk : k < 11) => ?_))
      unfold xv
      by_cases c : xrf 0 k = true
      · rw [if_pos c, if_pos c]
      · rw [if_neg c, if_neg c]
        have c6 : ¬ k < 6 := fun z => c (decide_eq_true z)
        exact congrArg Value.int (show I [11, 4, 0] k = nrm (gX I 4) 0 k from (if_pos (Or.inl ⟨rfl, by omega, hk⟩)).symm)
    · refine (xat_arr (id := [11, 4, 1]) (t := 0) (L := 4) rfl).mpr (((xat_arr (id := [11, 4, 1]) (t := 0) (L := 4) rfl).mp hx).trans (congrArg some (arrV_ext fun j hj => ?_)))
      exact congrArg Value.int (show I [11, 4, 1] j = nrm (gX I 4) 1 j from (if_pos (Or.inr (Or.inl ⟨rfl, hj⟩))).symm)
    · refine (xat_arr (id := [11, 4, 2]) (t := 1) (L := 8) rfl).mpr (((xat_arr (id := [11, 4, 2]) (t := 1) (L := 8) rfl).mp hx).trans (congrArg some (arrV_ext fun j hj => ?_)))
      exact congrArg Value.int (show I [11, 4, 2] j = nrm (gX I 4) 2 j from (if_pos (Or.inr (Or.inr ⟨by omega, hj⟩))).symm)
    · refine (xat_arr (id := [11, 4, 3]) (t := 1) (L := 8) rfl).mpr (((xat_arr (id := [11, 4, 3]) (t := 1) (L := 8) rfl).mp hx).trans (congrArg some (arrV_ext fun j hj => ?_)))
      exact congrArg Value.int (show I [11, 4, 3] j = nrm (gX I 4) 3 j from (if_pos (Or.inr (Or.inr ⟨by omega, hj⟩))).symm)
    · refine (xat_arr (id := [11, 4, 4]) (t := 0) (L := 8) rfl).mpr (((xat_arr (id := [11, 4, 4]) (t := 0) (L := 8) rfl).mp hx).trans (congrArg some (arrV_ext fun j hj => ?_)))
      exact congrArg Value.int (show I [11, 4, 4] j = nrm (gX I 4) 4 j from (if_pos (Or.inr (Or.inr ⟨by omega, hj⟩))).symm)
    · refine (xat_arr (id := [11, 4, 5]) (t := 0) (L := 8) rfl).mpr (((xat_arr (id := [11, 4, 5]) (t := 0) (L := 8) rfl).mp hx).trans (congrArg some (arrV_ext fun j hj => ?_)))
      exact congrArg Value.int (show I [11, 4, 5] j = nrm (gX I 4) 5 j from (if_pos (Or.inr (Or.inr ⟨by omega, hj⟩))).symm)
  · rw [e]; exact h1 id hi
theorem xCh_nrm {X : xX} (h : xCh X) : xCh (nrm X) := fun k => by
  unfold nrm
  split
  · exact h k
  · rfl
