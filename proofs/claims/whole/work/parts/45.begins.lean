/-! A CASE BEGINS; WHAT IS REPLAYED -/
/-- the numbers of a case that isn't begun are of no account -/
def lvJ (c : Nat) (id : List Nat) : Bool := match id with
  | [11, d, _] => decide (d ≠ c)
  | _ => true
theorem lvJ_11 {c d f : Nat} (h : d ≠ c) : lvJ c [11, d, f] = true := decide_eq_true h
theorem pL_lvJ {c : Nat} {id : List Nat} (h : pL id = true) : lvJ c id = true := by
  unfold lvJ
  split
  · exfalso; revert h; simp [pL]
  · rfl
theorem LV.zero {h : xS} {I I' : xI} {jn q : Nat} (hL : LV h I jn) (hq : sNc h ≤ q) (hq4 : q < 4) (e : ∀ id, lvJ q id = true → I' id = I id) : LV h I' jn := by
  obtain ⟨⟨⟨a1, a2, a3⟩, a4, a5, a6⟩, ⟨⟨b1, b2, b3⟩, b4, b5, b6, b7⟩, k, ⟨d1, d2, d3⟩, f⟩ := hL
  have e4 : ∀ k, I' [4, k] = I [4, k] := fun k => e _ rfl
  have e5 : ∀ k, I' [5, k] = I [5, k] := fun k => e _ rfl
  have e7 : ∀ k j, I' [7, k, j] = I [7, k, j] := fun k j => e _ rfl
  have eP : ∀ id, pL id = true → I' id = I id := fun id hi => e id (pL_lvJ hi)
  have gx : ∀ d, d ≠ q → gX I' d = gX I d := fun d hd => funext fun k => e _ (lvJ_11 hd)
  have e22 : ∀ k j, I' [22, k, j] = I [22, k, j] := fun k j => e _ rfl
  have e24 : ∀ k, I' [24, k] = I [24, k] := fun k => e _ rfl
  have e20 : I' [20] = I [20] := e _ rfl
  have e23 : ∀ k j i, I' [23, k, j, i] = I [23, k, j, i] := fun k j i => e _ rfl
  refine ⟨⟨⟨a1, by rw [e _ rfl]; exact a2, fun p hp => (a3 p hp).sameL eP⟩, by rw [e20]; exact a4, fun p hp => ?_, fun p h1 h2 => ?_⟩, ⟨⟨b1, by rw [e _ rfl]; exact b2, fun c hc => ⟨(b3 c hc).1, by rw [gx c (by omega)]; exact (b3 c hc).2⟩⟩, by rw [e20]; exact b4, by rw [e20]; exact b5, fun c hc => ?_, fun c h1 h2 => ?_⟩, fun c hc z => by rw [gx c (by omega)]; exact k c hc z, ⟨by rw [e _ rfl]; exact d1, ?_, fun c hc => ?_⟩, by rw [gx 4 (by omega)]; exact f⟩
  · obtain ⟨z1, z2, z3, z4, z5⟩ := a5 p hp
    exact ⟨z1.sameL eP, by rw [e24, e5]; exact z2, by rw [e5]; exact z3, fun j hj => by rw [e7]; exact z4 j hj, fun j w h1 h2 h3 => by rw [e23]; exact z5 j w h1 h2 h3⟩
  · obtain ⟨z1, z2, z3⟩ := a6 p h1 h2
    exact ⟨by rw [e24]; exact z1, by rw [e24]; exact z2, fun j w hj hw => by rw [e23]; exact z3 j w hj hw⟩
  · obtain ⟨u, v⟩ := b6 c hc
    refine ⟨?_, ?_⟩
    · unfold LAg at *
      rw [gx c (by omega), e22, e22, e22, e22, e24, e24, e24, e24]; exact u
    · unfold LCc at *
      rw [gx c (by omega), e24, e5]; exact v
  · have u := b7 c h1 h2
    unfold LC0 at *
    rw [e22, e22, e22, e22, e24, e24, e24, e24]; exact u
  · obtain ⟨x1, x2, x3⟩ := d2
    refine ⟨fun r hr => by rw [e4]; exact x1 r hr, fun r hr z => ?_, fun r hr => ?_⟩
    · rw [e4] at z
      obtain ⟨p, y1, y2, y3⟩ := x2 r hr z
      exact ⟨p, y1, by rw [e4]; exact y2, by rw [e5]; exact y3⟩
    · obtain ⟨w, y1, y2, y3⟩ := x3 r hr
      exact ⟨w, y1, by rw [e4]; exact y2, by unfold sTim at *; rw [e4, e4]; exact y3⟩
  · exact (d3 c hc).congr (us := fun _ => True) (fun p _ => ⟨vP_sameL eP p, vC_sameL eP p, rfl, rfl⟩) (fun r _ => by rw [e4, e4, e4, e4]; exact ⟨rfl, rfl, rfl, rfl⟩) (fun _ _ _ => trivial) d2.2.2 (Nat.le_refl _) (fun _ _ => Nat.le_refl _) (gx c (by omega)) rfl
/-- the case c begins with the plan p -/
theorem LV.begin {h h' : xS} {I I' : xI} {jn c p : Nat} {Xf : xX} (hL : LV h I jn) (hj : jn < 512) (hc : c = sNc h) (h4 : c < 4) (hp : p < sNp h) (hz : 0 < sSz h p) (hXf : nrm Xf = Xf) (hch : xCh Xf)
    (hNp : sNp h' = sNp h) (hNc : sNc h' = sNc h + 1) (hSz : sSz h' = sSz h) (hCn : sCn h' = sCn h) (hPc : sPl h' c = p) (hPd : ∀ d, d ≠ c → sPl h' d = sPl h d)
    (eL : ∀ id, pL0 id = true → I' id = I id) (e50 : ∀ q k, k ≠ 3 → I' [5, q] k = I [5, q] k) (e53 : ∀ q, q < sNp h → I' [24, 9] q = I' [5, q] 3 ∧ sBo (I' [5, q] 3)) (e5u : ∀ q, ¬ I [5, q] 3 = 0 → ¬ I' [5, q] 3 = 0) (e5p : ¬ I' [5, p] 3 = 0) (e9 : ∀ q, sNp h ≤ q → I' [24, 9] q = I [24, 9] q)
    (e01 : I' [0] 1 = I [0] 1) (e03 : I' [0] 3 = nI (c + 1)) (e10 : I' [20] 10 = I [20] 10) (e20 : I' [20] 20 = nI (c + 1)) (e21 : I' [20] 21 = -1) (e3 : I' [3] 4 = nI (jn + 1))
    (eJ : ∀ r, r < jn → I' [4, 0] r = I [4, 0] r ∧ I' [4, 1] r = I [4, 1] r ∧ I' [4, 2] r = I [4, 2] r ∧ I' [4, 3] r = I [4, 3] r) (eJn : I' [4, 0] jn = nI c ∧ I' [4, 1] jn = 0 ∧ I' [4, 2] jn = nI p)
    (eX : gX I' c = (sHap h I 0 (nI p) 0 (p, Xf)).2) (eXd : ∀ d, d ≠ c → gX I' d = gX I d) (eA : LAg I' c) (e11 : I' [24, 11] c = nI p) (eK : ∀ k, Xf 4 k = 0) (eD : ∀ d, d ≠ c → I' [22, 12, d] = I [22, 12, d] ∧ I' [22, 14, d] = I [22, 14, d] ∧ I' [22, 15, d] = I [22, 15, d] ∧ I' [22, 16, d] = I [22, 16, d] ∧ I' [24, 17] d = I [24, 17] d ∧ I' [24, 13] d = I [24, 13] d ∧ I' [24, 18] d = I [24, 18] d ∧ I' [24, 19] d = I [24, 19] d ∧ I' [24, 11] d = I [24, 11] d) : LV h' I' (jn + 1) := by
  obtain ⟨a, ⟨⟨b1, b2, b3⟩, b4, b5, b6, b7⟩, k, ⟨j1, ⟨j2, j3, j4⟩, j5⟩, f⟩ := hL
  have h3 := a.1.1
  have hP := a.mark hNp hSz hCn eL e50 e53 e9 e01 e10
  have us : sUs (fun _ => True) h h' I I' := fun p _ => ⟨funext fun q => eL _ rfl, funext fun q => funext fun v => funext fun z => eL _ rfl, by rw [hSz], by rw [hCn]⟩
  have ju : sJu (fun _ => True) I jn := fun _ _ _ => trivial
  have hI7 : ¬ I' [4, 1] jn = 7 := by rw [eJn.2.1]; decide
  have hcl : (nI p).toNatClampNeg = p := nI_clamp (by omega)
  have nc : ∀ r, r < jn → ¬ I [4, 0] r = nI c := fun r hr z => by
    rcases j2 r hr with y | ⟨d, hd, y⟩
    · exact nI_m1 (q := c) (by omega) (z.symm.trans y)
    · exact absurd ((nI_eq (a := c) (b := d) (by omega) (by omega)).mp (z.symm.trans y)) (by omega)
  refine ⟨hP, ⟨⟨by rw [hNc]; omega, by rw [hNc, e03, hc], fun d hd => ?_⟩, by rw [e20, hNc, hc], e21, fun d hd => ?_, fun d h1 h2 => ?_⟩, fun d hd q => ?_, ⟨e3, ⟨fun r hr => ?_, fun r hr z => ?_, fun r hr => ?_⟩, fun d hd => ?_⟩, ?_⟩
  · by_cases e : d = c
    · rw [e, eX, hPc, hNp]; exact ⟨hp, xCh.hap (s := (p, Xf)) hch⟩
    · rw [eXd d e, hPd d e, hNp]; exact b3 d (by omega)
  · by_cases e : d = c
    · rw [e]
      refine ⟨eA, by rw [eX]; exact sHap_8 _ _ _ _ _ _, by rw [e11, hPc], ?_, by rw [hSz, hPc]; exact hz, by rw [hPc]; exact e5p⟩
      rw [eX]
      show sBo (sTail _ _ _ _ (sNew Xf) 0 7)
      rw [sTail_7]; exact Or.inl rfl
    · obtain ⟨u1, v1, v2, v3, v4, v5⟩ := b6 d (by omega)
      obtain ⟨z1, z2, z3, z4, z5, z6, z7, z8, z9⟩ := eD d e
      refine ⟨?_, by rw [eXd d e]; exact v1, by rw [z9, hPd d e]; exact v2, by rw [eXd d e]; exact v3, by rw [hSz, hPd d e]; exact v4, by rw [hPd d e]; exact e5u _ v5⟩
      unfold LAg at *
      rw [eXd d e, z1, z2, z3, z4, z5, z6, z7, z8]; exact u1
  · rw [hNc] at h1
    obtain ⟨z1, z2, z3, z4, z5, z6, z7, z8, z9⟩ := eD d (by omega)
    have u := b7 d (by omega) h2
    unfold LC0 at *
    rw [z1, z2, z3, z4, z5, z6, z7, z8]; exact u
  · by_cases e : d = c
    · rw [e, eX]
      have e4 : (sHap h I 0 (nI p) 0 (p, Xf)).2 4 q = 0 := by
        show sTail _ _ _ _ (sNew Xf) 4 q = 0
        rw [sTail_4]
        unfold sNew
        rw [up2_f _ _ _ (by decide), up2_f _ _ _ (by decide), up2_f _ _ _ (by decide), up2_f _ _ _ (by decide)]
        unfold sNw2
        rw [if_neg (by omega), if_neg (by omega)]
        split
        · rfl
        · exact eK q
      have e0 : ((sHap h I 0 (nI p) 0 (p, Xf)).2 4 q).toInt = 0 := by rw [e4]; decide
      rw [e0]
      exact ⟨Int.le_refl 0, by omega⟩
    · rw [eXd d e]
      have := k d (by omega) q
      push_cast; omega
  · by_cases e : r = jn
    · subst e; exact Or.inr ⟨c, by omega, eJn.1⟩
    · rw [(eJ r (by omega)).1, hNc]
      rcases j2 r (by omega) with y | ⟨d, hd, y⟩
      · exact Or.inl y
      · exact Or.inr ⟨d, by omega, y⟩
  · by_cases e : r = jn
    · subst e
      exact ⟨p, by omega, eJn.2.2, e5p⟩
    · obtain ⟨q1, q2, q3, q4⟩ := eJ r (by omega)
      rw [q2] at z
      obtain ⟨q, y1, y2, y3⟩ := j3 r (by omega) z
      exact ⟨q, by omega, by rw [q3]; exact y2, e5u q y3⟩
  · by_cases e : r = jn
    · subst e; exact ⟨0, by omega, eJn.2.1, Or.inl (by decide)⟩
    · obtain ⟨q1, q2, q3, q4⟩ := eJ r (by omega)
      unfold sTim
      rw [q2, q3]; exact j4 r (by omega)
  · by_cases e : d = c
    · rw [e]
      intro p0 X0 hX00
      have S0 : ∀ r, r ≤ jn → sRep h I (nI c) (false, (p0, X0)) r = (false, (p0, X0)) := fun r => by
        induction r with
        | zero => intro _; rfl
        | succ r ih =>
          intro hr
          have e := ih (by omega)
          have hb : sBeg I (nI c) false r = false := by
            unfold sBeg
            rw [decide_eq_false (nc r (by omega))]; rfl
          show (if sBeg I (nI c) (sRep h I (nI c) (false, (p0, X0)) r).1 r = true ∧ _ then _ else (sBeg I (nI c) (sRep h I (nI c) (false, (p0, X0)) r).1 r, (sRep h I (nI c) (false, (p0, X0)) r).2)) = _
          rw [e, hb, if_neg (fun z => by cases z.1)]
      have R := ((sRep_congr us eJ ju j4 (nI c) (p0, X0) jn (Nat.le_refl _)).1).trans (S0 jn (Nat.le_refl _))
      have J0 : sJV h I (nI c) (false, (p0, X0)) jn := fun r hr hb _ => by
        rw [S0 r (by omega)] at hb
        unfold sBeg at hb
        rw [decide_eq_false (nc r hr)] at hb
        cases hb
      have J' := J0.congr us eJ ju j4 (by omega) (fun q _ => by rw [hSz]; exact Nat.le_refl _)
      have hb : sBeg I' (nI c) false jn = true := by unfold sBeg; rw [decide_eq_true eJn.1, decide_eq_true eJn.2.1]; rfl
      have hstep : sHap h' I' 0 (nI p) (I' [4, 3] jn) (p0, X0) = (p, rq3 (gX I' c) (X0 3)) := by
        rw [(sHap_congr us (w := 0) (x := nI p) (y := I' [4, 3] jn) (s := (p0, X0)) (Or.inr rfl) (fun _ => trivial)).1, sHap0_nrm h I (nI p) (I' [4, 3] jn) p0 p hX00 hXf, eX]
        show ((nI p).toNatClampNeg, _) = _
        rw [hcl]; rfl
      have E : sRep h' I' (nI c) (false, (p0, X0)) (jn + 1) = (true, (p, rq3 (gX I' c) (X0 3))) := by
        show (if sBeg I' (nI c) (sRep h' I' (nI c) (false, (p0, X0)) jn).1 jn = true ∧ (I' [4, 0] jn = nI c ∨ I' [4, 0] jn = -1) then (sBeg I' (nI c) (sRep h' I' (nI c) (false, (p0, X0)) jn).1 jn, sItr h' I' (I' [4, 1] jn).toNatClampNeg (I' [4, 2] jn) (I' [4, 3] jn) (sTim I' jn) (sRep h' I' (nI c) (false, (p0, X0)) jn).2) else _) = _
        rw [R, hb, if_pos ⟨rfl, Or.inl eJn.1⟩, sTim_1 hI7, eJn.2.1, eJn.2.2, show (0 : Int32).toNatClampNeg = 0 from rfl, ← hstep]
        rfl
      rw [E]
      refine ⟨J'.snoc (fun _ _ => ⟨0, by omega, eJn.2.1, fun z => absurd z (by decide), ?_⟩), rfl, hPc.symm, X0 3, rfl⟩
      rw [eJn.2.2]
      exact ⟨p, by omega, rfl⟩
    · refine ((j5 d (by omega)).congr us eJ ju j4 (by omega) (fun q _ => by rw [hSz]; exact Nat.le_refl _) (eXd d e) (hPd d e)).skip ?_ ?_
      · rw [eJn.1]; exact fun z => e ((nI_eq (a := c) (b := d) (by omega) (by omega)).mp z).symm
      · rw [eJn.1]; exact nI_m1 (by omega)
  · rw [eXd 4 (by omega)]; exact f
/-- which plan the replayed case has is of no account -/
theorem LV.hp4 {h : xS} {I : xI} {jn : Nat} (hL : LV h I jn) (q : Nat) : LV (hPl h 4 q) I jn := by
  obtain ⟨a, ⟨⟨b1, b2, b3⟩, b4, b5, b6, b7⟩, k, ⟨d1, d2, d3⟩, f⟩ := hL
  have ep : ∀ c, c < sNc h → sPl (hPl h 4 q) c = sPl h c := fun c hc => if_neg (by omega)
  refine ⟨a, ⟨⟨b1, b2, fun c hc => by rw [ep c hc]; exact b3 c hc⟩, b4, b5, fun c hc => ⟨(b6 c hc).1, ?_⟩, b7⟩, k, ⟨d1, d2, fun c hc => ?_⟩, f⟩
  · obtain ⟨v1, v2, v3, v4, v5⟩ := (b6 c hc).2
    exact ⟨v1, by rw [ep c hc]; exact v2, v3, by rw [ep c hc]; exact v4, by rw [ep c hc]; exact v5⟩
  · exact (d3 c hc).congr (us := fun _ => True) (fun p _ => ⟨rfl, rfl, rfl, rfl⟩) (fun r _ => ⟨rfl, rfl, rfl, rfl⟩) (fun _ _ _ => trivial) d2.2.2 (Nat.le_refl _) (fun _ _ => Nat.le_refl _) rfl (ep c hc)
/-- beyond the rows' lengths the replayed case's numbers may be what they like -/
theorem xR.nrm4 {g : xG} {h : xS} {I : xI} {n : Nat} {H : Heap} (hH : xR g (xD h) I (xFh h) n H) : xR g (xD h) (sX I 4 (nrm (gX I 4))) (xFh h) n H := by
  obtain ⟨h0, h1, h2, h3, h4⟩ := hH
  refine ⟨h0, fun id hi => ?_, h2, h3, h4⟩
  rcases sX_cases I 4 (nrm (gX I 4)) id with ⟨f, rfl, e⟩ | ⟨-, e⟩
  · have hf : f < 6 := hi.2
    have hx := h1 _ hi
    rw [e]
    rcases (show f = 0 ∨ f = 1 ∨ f = 2 ∨ f = 3 ∨ f = 4 ∨ f = 5 by omega) with r | r | r | r | r | r <;> subst r
    · refine (xat_obj (id := [11, 4, 0]) (ci := 0) rfl (by decide) rfl).mpr (((xat_obj (id := [11, 4, 0]) (ci := 0) rfl (by decide) rfl).mp hx).to (fun k (hk : k < 11) => ?_))
      unfold xv
      by_cases c : xrf 0 k = true
      · rw [if_pos c, if_pos c]
      · rw [if_neg c, if_neg c]
        have c6 : ¬ k < 6 := fun z => c (decide_eq_true z)
        exact congrArg Value.int (show I [11, 4, 0] k = nrm (gX I 4) 0 k from (if_pos (Or.inl ⟨rfl, by omega, hk⟩)).symm)
    · refine (xat_arr (id := [11, 4, 1]) (t := 0) (L := 4) rfl).mpr (((xat_arr (id := [11, 4, 1]) (t := 0) (L := 4) rfl).mp hx).trans (congrArg some (arrV_ext fun j hj => ?_)))
      exact congrArg Value.int (show I [11, 4, 1] j = nrm (gX I 4) 1 j from (if_pos (Or.inr (Or.inl ⟨rfl, hj⟩))).symm)
    · refine (xat_arr (id := [11, 4, 2]) (t := 1) (L := 8) rfl).mpr (((xat_arr (id := [11, 4, 2]) (t := 1) (L := 8) rfl).mp hx).trans (congrArg some (arrV_ext fun j hj => ?_)))
      exact congrArg Value.int (show I [11, 4, 2] j = nrm (gX I 4) 2 j from (if_pos (Or.inr (Or.inr ⟨by omega, hj⟩))).symm)
    · refine (xat_arr (id := [11, 4, 3]) (t := 1) (L := 8) rfl).mpr (((xat_arr (id := [11, 4, 3]) (t := 1) (L := 8) rfl).mp hx).trans (congrArg some (arrV_ext fun j hj => ?_)))
      exact congrArg Value.int (show I [11, 4, 3] j = nrm (gX I 4) 3 j from (if_pos (Or.inr (Or.inr ⟨by omega, hj⟩))).symm)
    · refine (xat_arr (id := [11, 4, 4]) (t := 0) (L := 8) rfl).mpr (((xat_arr (id := [11, 4, 4]) (t := 0) (L := 8) rfl).mp hx).trans (congrArg some (arrV_ext fun j hj => ?_)))
      exact congrArg Value.int (show I [11, 4, 4] j = nrm (gX I 4) 4 j from (if_pos (Or.inr (Or.inr ⟨by omega, hj⟩))).symm)
    · refine (xat_arr (id := [11, 4, 5]) (t := 0) (L := 8) rfl).mpr (((xat_arr (id := [11, 4, 5]) (t := 0) (L := 8) rfl).mp hx).trans (congrArg some (arrV_ext fun j hj => ?_)))
      exact congrArg Value.int (show I [11, 4, 5] j = nrm (gX I 4) 5 j from (if_pos (Or.inr (Or.inr ⟨by omega, hj⟩))).symm)
  · rw [e]; exact h1 id hi
theorem xCh_nrm {X : xX} (h : xCh X) : xCh (nrm X) := fun k => by
  unfold nrm
  split
  · exact h k
  · rfl
