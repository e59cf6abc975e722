/-! WHAT HOLDS BETWEEN THE LAW'S CALLS: the plans, the cases, the journal -/
def pL (id : List Nat) : Bool := match id with
  | [7, _, _] => true
  | [8, _, _, _] => true
  | [10, _, _, _, _] => true
  | _ => false
theorem vP_sameL {I J : xI} (h : ∀ id, pL id = true → J id = I id) (p : Nat) : vP J p = vP I p := funext fun j => h [7, p, j] rfl
theorem vC_sameL {I J : xI} (h : ∀ id, pL id = true → J id = I id) (p : Nat) : vC J p = vC I p := funext fun j => funext fun w => funext fun k => h [10, p, j, w, k] rfl
theorem xWp.sameL {h : xS} {I J : xI} {p : Nat} (hW : xWp h I p) (e : ∀ id, pL id = true → J id = I id) (e5 : ∀ k, k ≠ 3 → J [5, p] k = I [5, p] k) : xWp h J p := by
  have e7 : ∀ q j, J [7, q, j] = I [7, q, j] := fun q j => e _ rfl
  have e8 : ∀ q j w, J [8, q, j, w] = I [8, q, j, w] := fun q j w => e _ rfl
  have e10 : ∀ q j w k, J [10, q, j, w, k] = I [10, q, j, w, k] := fun q j w k => e _ rfl
  unfold xWp xWs at *
  simp only [e7, e8, e10, e5 0 (by decide), e5 2 (by decide)]
  exact hW
def LPl (h : xS) (I : xI) (p : Nat) : Prop := sBo (I [5, p] 3) ∧ ∀ j, j < sSz h p → sBo (I [7, p, j] 4) ∧ sBo (I [7, p, j] 6) ∧ 1 ≤ I [7, p, j] 5 ∧ I [7, p, j] 5 ≤ 99
def LPa (h : xS) (I : xI) : Prop := xWs0 h I ∧ ∀ p, p < sNp h → LPl h I p
def LCc (h : xS) (I : xI) (c : Nat) : Prop := gX I c 0 8 = -1 ∧ sBo (gX I c 0 7) ∧ 0 < sSz h (sPl h c) ∧ ¬ I [5, sPl h c] 3 = 0
def LC (h : xS) (I : xI) : Prop := xWc h I ∧ ∀ c, c < sNc h → LCc h I c
def LK (h : xS) (I : xI) (jn : Nat) : Prop := ∀ c, c < sNc h → uX_ (10 * jn) (gX I c)
def LJr (h : xS) (I : xI) (c jn : Nat) : Prop := ∀ p X, nrm X = X → sJV h I (nI c) (false, (p, X)) jn ∧ (sRep h I (nI c) (false, (p, X)) jn).1 = true ∧ (sRep h I (nI c) (false, (p, X)) jn).2.1 = sPl h c ∧ ∃ r, (sRep h I (nI c) (false, (p, X)) jn).2.2 = rq3 (gX I c) r
/-- the journal's rows: who, what, which plan -/
def LJ0 (h : xS) (I : xI) (jn : Nat) : Prop := (∀ r, r < jn → I [4, 0] r = -1 ∨ ∃ c, c < sNc h ∧ I [4, 0] r = nI c) ∧ (∀ r, r < jn → I [4, 1] r = 0 ∨ I [4, 1] r = 6 → ∃ q, q < sNp h ∧ I [4, 2] r = nI q ∧ ¬ I [5, q] 3 = 0) ∧ ∀ r, r < jn → ∃ w : Nat, w ≤ 7 ∧ I [4, 1] r = nI w ∧ (w ≠ 7 ∨ (1 ≤ sTim I r))
def LJ (h : xS) (I : xI) (jn : Nat) : Prop := I [3] 4 = nI jn ∧ LJ0 h I jn ∧ ∀ c, c < sNc h → LJr h I c jn
def LV (h : xS) (I : xI) (jn : Nat) : Prop := LPa h I ∧ LC h I ∧ LK h I jn ∧ LJ h I jn ∧ xCh (gX I 4)
theorem sVal_mono {h h' : xS} (hp : sNp h ≤ sNp h') (hs : ∀ q, q < sNp h → sSz h q ≤ sSz h' q) {w : Nat} {x : Int32} {p : Nat} (hv : sVal h w x p) : sVal h' w x p := by
  match w, hv with
  | 0, ⟨q, a, b⟩ => exact ⟨q, by omega, b⟩
  | 1, ⟨a, b⟩ => exact ⟨by omega, b⟩
  | 2, a => exact Nat.lt_of_lt_of_le a hp
  | 3, ⟨a, j, b, d⟩ => exact ⟨by omega, j, by have := hs p a; omega, d⟩
  | 4, a => exact Nat.lt_of_lt_of_le a hp
  | 5, a => exact Nat.lt_of_lt_of_le a hp
  | 6, ⟨q, a, b⟩ => exact ⟨q, by omega, b⟩
  | w + 7, a => exact Nat.lt_of_lt_of_le a hp
theorem LJr.congr {us : Nat → Prop} {h h' : xS} {I I' : xI} {c jn : Nat} (hJ : LJr h I c jn) (hu : sUs us h h' I I') (hr : ∀ r, r < jn → I' [4, 0] r = I [4, 0] r ∧ I' [4, 1] r = I [4, 1] r ∧ I' [4, 2] r = I [4, 2] r ∧ I' [4, 3] r = I [4, 3] r) (hj : sJu us I jn) (hw : ∀ r, r < jn → ∃ w : Nat, w ≤ 7 ∧ I [4, 1] r = nI w ∧ (w ≠ 7 ∨ (1 ≤ sTim I r)))
    (hp : sNp h ≤ sNp h') (hs : ∀ q, q < sNp h → sSz h q ≤ sSz h' q) (eX : gX I' c = gX I c) (ep : sPl h' c = sPl h c) : LJr h' I' c jn := by
  intro p X hX
  obtain ⟨a, b, d, r, f⟩ := hJ p X hX
  have R := fun k hk => (sRep_congr hu hr hj hw (nI c) (p, X) k hk).1
  rw [R jn (Nat.le_refl _)]
  refine ⟨fun k hk hb hc => ?_, b, d.trans ep.symm, r, by rw [eX]; exact f⟩
  rw [R k (by omega)] at hb ⊢
  obtain ⟨q0, q1, q2, q3⟩ := hr k hk
  have eB : ∀ z, sBeg I' (nI c) z k = sBeg I (nI c) z k := fun z => by unfold sBeg; rw [q0, q1]
  rw [eB] at hb
  rw [q0] at hc
  obtain ⟨w, h7, h8, h9, hv⟩ := a k hk hb hc
  refine ⟨w, h7, by rw [q1]; exact h8, fun z => ?_, by rw [q2]; exact sVal_mono hp hs hv⟩
  obtain ⟨d9, d10, d11⟩ := h9 z
  exact ⟨d9, d10, by rw [q2]; exact d11⟩
/-- ids that only the law's own rows and what is replayed bear -/
def lvI (id : List Nat) : Bool := match id with
  | [40] => false
  | [41] => false
  | [42] => false
  | [11, 4, _] => false
  | _ => true
theorem lvI_11 {c f : Nat} (h : c ≠ 4) : lvI [11, c, f] = true := by
  unfold lvI; split <;> first | rfl | simp_all
theorem gX_same {I I' : xI} (e : ∀ id, lvI id = true → I' id = I id) {c : Nat} (hc : c ≠ 4) : gX I' c = gX I c := funext fun f => e _ (lvI_11 hc)
theorem pL_lvI {id : List Nat} (h : pL id = true) : lvI id = true := by
  unfold lvI
  split <;> first | rfl | (exfalso; revert h; simp [pL]; done)
theorem LJ0.us {h : xS} {I : xI} {jn : Nat} (hJ : LJ0 h I jn) (h3 : sNp h ≤ 3) {us : Nat → Prop} (hu : ∀ q, q < sNp h → ¬ I [5, q] 3 = 0 → us q) : sJu us I jn := fun r hr z => by
  obtain ⟨q, a, b, c⟩ := hJ.2.1 r hr z
  rw [b, nI_clamp (by omega)]
  exact hu q a c
theorem LPl.same {h : xS} {I I' : xI} {p : Nat} (hL : LPl h I p) (e7 : ∀ j, I' [7, p, j] = I [7, p, j]) (e5 : I' [5, p] = I [5, p]) : LPl h I' p := by
  unfold LPl at *
  rw [e5]
  simp only [e7]
  exact hL
theorem LV.same {h : xS} {I I' : xI} {jn : Nat} (hL : LV h I jn) (e : ∀ id, lvI id = true → I' id = I id) (h4 : xCh (gX I' 4)) : LV h I' jn := by
  obtain ⟨⟨⟨a1, a2, a3⟩, a4⟩, ⟨⟨b1, b2, b3⟩, b4⟩, c, ⟨d1, d2, d3⟩, f⟩ := hL
  have e4 : ∀ k, I' [4, k] = I [4, k] := fun k => e _ rfl
  refine ⟨⟨⟨a1, by rw [e _ rfl]; exact a2, fun p hp => (a3 p hp).sameL (fun id hi => e id (pL_lvI hi)) (fun k _ => by rw [e _ rfl])⟩, fun p hp => (a4 p hp).same (fun j => e _ rfl) (e _ rfl)⟩, ⟨⟨b1, by rw [e _ rfl]; exact b2, fun q hq => ⟨(b3 q hq).1, by rw [gX_same e (by omega)]; exact (b3 q hq).2⟩⟩, fun q hq => ?_⟩, fun q hq => by rw [gX_same e (by omega)]; exact c q hq, ⟨by rw [e _ rfl]; exact d1, ?_, fun q hq => ?_⟩, h4⟩
  · have w := b4 q hq
    unfold LCc at *
    rw [gX_same e (by omega), e [5, sPl h q] rfl]
    exact w
  · obtain ⟨x1, x2, x3⟩ := d2
    refine ⟨fun r hr => by rw [e4]; exact x1 r hr, fun r hr z => ?_, fun r hr => ?_⟩
    · rw [e4] at z
      obtain ⟨q, y1, y2, y3⟩ := x2 r hr z
      exact ⟨q, y1, by rw [e4]; exact y2, by rw [e _ rfl]; exact y3⟩
    · obtain ⟨w, y1, y2, y3⟩ := x3 r hr
      exact ⟨w, y1, by rw [e4]; exact y2, by unfold sTim at *; rw [e4, e4]; exact y3⟩
  · exact (d3 q hq).congr (us := fun _ => True) (fun p _ => ⟨vP_sameL (fun id hi => e id (pL_lvI hi)) p, vC_sameL (fun id hi => e id (pL_lvI hi)) p, rfl, rfl⟩) (fun r _ => by rw [e4, e4, e4, e4]; exact ⟨rfl, rfl, rfl, rfl⟩) (fun _ _ _ => trivial) d2.2.2 (Nat.le_refl _) (fun _ _ => Nat.le_refl _) (gX_same e (by omega)) rfl
/-- ids that a change of the plan p leaves alone -/
def lvQ (p : Nat) (id : List Nat) : Bool := match id with
  | [3] => true
  | [4, _] => true
  | [5, q] => decide (q ≠ p)
  | [7, q, _] => decide (q ≠ p)
  | [10, q, _, _, _] => decide (q ≠ p)
  | [11, _, _] => true
  | _ => false
theorem LV.plan {h h' : xS} {I I' : xI} {jn p : Nat} (hL : LV h I jn) (hNc : sNc h' = sNc h) (hPl : ∀ c, sPl h' c = sPl h c) (hNp : sNp h ≤ sNp h') (hq : ∀ q, q < sNp h → q ≠ p → sSz h' q = sSz h q ∧ sCn h' q = sCn h q) (hs : ∀ q, q < sNp h → sSz h q ≤ sSz h' q) (hun : p < sNp h → I [5, p] 3 = 0)
    (e : ∀ id, lvQ p id = true → I' id = I id) (e03 : I' [0] 3 = I [0] 3) (hP : LPa h' I') : LV h' I' jn := by
  obtain ⟨a, b, c, ⟨d1, d2, d3⟩, f⟩ := hL
  have gx : ∀ q, gX I' q = gX I q := fun q => funext fun k => e _ rfl
  have e4 : ∀ k, I' [4, k] = I [4, k] := fun k => e _ rfl
  have nep : ∀ q, q < sNp h → ¬ I [5, q] 3 = 0 → q ≠ p := fun q hq0 h0 z => h0 (z ▸ hun (z ▸ hq0))
  have e5 : ∀ q, q ≠ p → I' [5, q] = I [5, q] := fun q z => e _ (decide_eq_true z)
  obtain ⟨⟨b1, b2, b3⟩, b6⟩ := b
  have cp : ∀ q, q < sNc h → sPl h q < sNp h ∧ sPl h q ≠ p := fun q hq0 => ⟨(b3 q hq0).1, nep _ (b3 q hq0).1 (b6 q hq0).2.2.2⟩
  refine ⟨hP, ⟨⟨by omega, by rw [e03, b2, hNc], fun q hq0 => ⟨?_, by rw [gx]; exact (b3 q (by omega)).2⟩⟩, fun q hq0 => ?_⟩, fun q hq0 => by rw [gx]; exact c q (by omega), ⟨by rw [e _ rfl]; exact d1, ?_, fun q hq0 => ?_⟩, by rw [gx]; exact f⟩
  · rw [hPl]; have := (b3 q (by omega)).1; omega
  · obtain ⟨u2, u4, u5, u6⟩ := b6 q (by omega)
    have k := cp q (by omega)
    unfold LCc
    rw [gx, hPl, e5 _ k.2, (hq _ k.1 k.2).1]
    exact ⟨u2, u4, u5, u6⟩
  · obtain ⟨x1, x2, x3⟩ := d2
    refine ⟨fun r hr => by rw [e4, hNc]; exact x1 r hr, fun r hr z => ?_, fun r hr => ?_⟩
    · rw [e4] at z
      obtain ⟨q, y1, y2, y3⟩ := x2 r hr z
      exact ⟨q, by omega, by rw [e4]; exact y2, by rw [e5 q (nep q y1 y3)]; exact y3⟩
    · obtain ⟨w, y1, y2, y3⟩ := x3 r hr
      exact ⟨w, y1, by rw [e4]; exact y2, by unfold sTim at *; rw [e4, e4]; exact y3⟩
  · refine (d3 q (by omega)).congr (us := fun q => q < sNp h ∧ q ≠ p) (fun q z => ⟨funext fun j => e _ (decide_eq_true z.2), funext fun j => funext fun w => funext fun k => e _ (decide_eq_true z.2), hq q z.1 z.2⟩) (fun r _ => by rw [e4, e4, e4, e4]; exact ⟨rfl, rfl, rfl, rfl⟩) (d2.us a.1.1 (fun q z1 z2 => ⟨z1, nep q z1 z2⟩)) d2.2.2 hNp hs (gx q) (hPl q)
/-! THE PLANS CHANGE -/
def eqQ (h h' : xS) (I I' : xI) (q : Nat) : Prop := sSz h' q = sSz h q ∧ sCn h' q = sCn h q ∧ I' [5, q] = I [5, q] ∧ (∀ j, I' [7, q, j] = I [7, q, j]) ∧ (∀ j w, I' [8, q, j, w] = I [8, q, j, w]) ∧ ∀ j w k, I' [10, q, j, w, k] = I [10, q, j, w, k]
theorem xWp.mv {h h' : xS} {I I' : xI} {q : Nat} (hW : xWp h I q) (e : eqQ h h' I I' q) : xWp h' I' q := by
  obtain ⟨e1, e2, e3, e4, e5, e6⟩ := e
  unfold xWp xWs at *
  rw [e1, e2, e3]
  simp only [e4, e5, e6]
  exact hW
theorem LPl.mv {h h' : xS} {I I' : xI} {q : Nat} (hL : LPl h I q) (e : eqQ h h' I I' q) : LPl h' I' q := by
  obtain ⟨e1, e2, e3, e4, e5, e6⟩ := e
  unfold LPl at *
  rw [e1, e3]
  simp only [e4]
  exact hL
theorem LPa.op {h h' : xS} {I I' : xI} {p : Nat} (hL : LPa h I) (h3 : sNp h' ≤ 3) (hn : sNp h' = sNp h ∨ (sNp h' = sNp h + 1 ∧ p = sNp h)) (hp : p < sNp h') (h01 : I' [0] 1 = nI (sNp h')) (heq : ∀ q, q < 3 → q ≠ p → eqQ h h' I I' q) (hW : xWp h' I' p) (hl : LPl h' I' p) : LPa h' I' := by
  obtain ⟨⟨a, b, c⟩, f⟩ := hL
  refine ⟨⟨h3, h01, fun q hq => ?_⟩, fun q hq => ?_⟩
  · by_cases e : q = p
    · subst e; exact hW
    · exact (c q (by omega)).mv (heq q (by omega) e)
  · by_cases e : q = p
    · subst e; exact hl
    · exact (f q (by omega)).mv (heq q (by omega) e)
/-- a plan is added -/
theorem LV.addPlan {h : xS} {I : xI} {jn : Nat} (hL : LV h I jn) (h3 : sNp h < 3) : LV (hPn h) (iPn h I) jn := by
  obtain ⟨I', hI⟩ : ∃ z, z = iPn h I := ⟨_, rfl⟩
  rw [← hI]
  have ev : ∀ id, id ≠ [0] → id ≠ [5, sNp h] → id ≠ [6, sNp h] → I' id = I id := fun id c d f => by
    rw [hI]; unfold iPn; rw [up_id c, upR_id f, upR_id d]
  have s0 : sSz (hPn h) (sNp h) = 0 := if_pos rfl
  have e5 : I' [5, sNp h] = rP (nI (sNp h)) := by rw [hI]; unfold iPn; rw [up_id (by simp), upR_id (by simp), upR_at]
  have sq : ∀ q, q ≠ sNp h → sSz (hPn h) q = sSz h q := fun q hq => if_neg hq
  refine hL.plan (p := sNp h) rfl (fun _ => rfl) (by show _ ≤ sNp h + 1; omega) (fun q hq hn => ⟨sq q hn, rfl⟩) (fun q hq => by rw [sq q (by omega)]; exact Nat.le_refl _) (fun z => absurd z (by omega)) (fun id hi => ev id ?_ ?_ ?_) ?_ (hL.1.op (p := sNp h) (by show sNp h + 1 ≤ 3; omega) (Or.inr ⟨rfl, rfl⟩) (by show _ < sNp h + 1; omega) ?_ (fun q hq hn => ⟨sq q hn, rfl, ev _ (by simp) (by simp [hn]) (by simp), fun j => ev _ (by simp) (by simp) (by simp), fun j w => ev _ (by simp) (by simp) (by simp), fun j w k => ev _ (by simp) (by simp) (by simp)⟩) ?_ ?_)
  · rintro rfl; simp [lvQ] at hi
  · rintro rfl; simp [lvQ] at hi
  · rintro rfl; simp [lvQ] at hi
  · rw [hI]; unfold iPn; rw [up_ne (by decide), upR_id (by simp), upR_id (by simp)]
  · rw [hI]; unfold iPn; exact up_at
  · refine ⟨by rw [s0]; omega, by rw [e5]; rfl, by rw [e5, s0]; rfl, fun j hj => absurd hj (by rw [s0]; omega)⟩
  · exact ⟨by rw [e5]; exact Or.inl rfl, fun j hj => absurd hj (by rw [s0]; omega)⟩
theorem sCV_mono {C : Nat → Int32} {n : Nat} (h : sCV C n) : sCV C (n + 1) := by
  rcases h with h | h | ⟨h, a, b, d⟩ | h
  · exact Or.inl h
  · exact Or.inr (Or.inl h)
  · exact Or.inr (Or.inr (Or.inl ⟨h, a, by omega, d⟩))
  · exact Or.inr (Or.inr (Or.inr h))
/-- a step is added -/
theorem LV.addStep {h : xS} {I : xI} {jn : Nat} (hL : LV h I jn) {p : Nat} (hp : p < sNp h) (hu : I [5, p] 3 = 0) (h8 : sSz h p < 8) {kd pa : Int32} (hkd : kd = 115 ∨ kd = 116 ∨ kd = 109) (hpa : pa = -1 ∨ ∃ q, q < sSz h p ∧ pa = nI q ∧ I [7, p, q] 0 = 115) : LV (hSt h p) (iSt h I p kd pa) jn := by
  obtain ⟨k, hk⟩ : ∃ k, k = sSz h p := ⟨_, rfl⟩
  obtain ⟨I', hI⟩ : ∃ z, z = iSt h I p kd pa := ⟨_, rfl⟩
  rw [← hI]
  have h3 : p < 3 := by have := hL.1.1.1; omega
  have hWp := hL.1.1.2.2 p hp
  obtain ⟨m4, m5⟩ := hL.1.2 p hp
  have sp : sSz (hSt h p) p = k + 1 := (show sSz (hSt h p) p = sSz h p + 1 from if_pos rfl).trans (by rw [hk])
  have sq : ∀ q, q ≠ p → sSz (hSt h p) q = sSz h q := fun q hq => if_neg hq
  have cq : ∀ q, q ≠ p → sCn (hSt h p) q = sCn h q := fun q hq => by funext j w; exact if_neg (fun z => hq z.1)
  have cp : ∀ j w, sCn (hSt h p) p j w = if j = k then 0 else sCn h p j w := fun j w => by
    show (if p = p ∧ j = sSz h p then 0 else sCn h p j w) = _
    rw [← hk]
    by_cases e : j = k
    · rw [if_pos ⟨rfl, e⟩, if_pos e]
    · rw [if_neg (fun z => e z.2), if_neg e]
  have ev : ∀ id, id ≠ [5, p] → id ≠ [7, p, k] → id ≠ [8, p, k, 0] → id ≠ [8, p, k, 1] → id ≠ [9, p, k, 0] → id ≠ [9, p, k, 1] → I' id = I id := fun id a7 a8 a9 a10 a11 a12 => by
    rw [hI]; unfold iSt; rw [← hk, up_id a7, upR_id a12, upR_id a10, upR_id a11, upR_id a9, upR_id a8]
  have e7 : ∀ j, j ≠ k → I' [7, p, j] = I [7, p, j] := fun j hj => ev _ (by simp) (by simp [hj]) (by simp) (by simp) (by simp) (by simp)
  have e7k : I' [7, p, k] = rS kd pa := by rw [hI]; unfold iSt; rw [← hk, up_id (by simp), upR_id (by simp), upR_id (by simp), upR_id (by simp), upR_id (by simp), upR_at]
  have e8 : ∀ j w, j ≠ k → I' [8, p, j, w] = I [8, p, j, w] := fun j w hj => ev _ (by simp) (by simp) (by simp [hj]) (by simp [hj]) (by simp) (by simp)
  have e8k : ∀ w, w < 2 → I' [8, p, k, w] = r0 := fun w hw => by
    rw [hI]; unfold iSt; rw [← hk, up_id (by simp), upR_id (by simp)]
    rcases (show w = 0 ∨ w = 1 by omega) with rfl | rfl
    · rw [upR_id (by simp), upR_id (by simp), upR_at]
    · rw [upR_at]
  have e10 : ∀ j w i, I' [10, p, j, w, i] = I [10, p, j, w, i] := fun j w i => ev _ (by simp) (by simp) (by simp) (by simp) (by simp) (by simp)
  have e5 : ∀ q i, I' [5, q] i = if q = p ∧ i = 2 then nI (k + 1) else I [5, q] i := fun q i => by rw [hI]; simp [iSt, up, upR, ← hk]
  have e5q : ∀ q, q ≠ p → I' [5, q] = I [5, q] := fun q hq => by funext i; rw [e5, if_neg (fun z => hq z.1)]
  have e53 : I' [5, p] 3 = I [5, p] 3 := by rw [e5, if_neg (by omega)]
  obtain ⟨w1, w2, w3, w4⟩ := hWp
  refine hL.plan (p := p) rfl (fun _ => rfl) (Nat.le_refl _) (fun q hq hn => ⟨sq q hn, cq q hn⟩) (fun q hq => ?_) (fun _ => hu) (fun id hi => ev id ?_ ?_ ?_ ?_ ?_ ?_) ?_ (hL.1.op (p := p) hL.1.1.1 (Or.inl rfl) hp ?_ (fun q hq hn => ⟨sq q hn, cq q hn, e5q q hn, fun j => ev _ (by simp) (by simp [hn]) (by simp) (by simp) (by simp) (by simp), fun j w => ev _ (by simp) (by simp) (by simp [hn]) (by simp [hn]) (by simp) (by simp), fun j w i => ev _ (by simp) (by simp) (by simp) (by simp) (by simp) (by simp)⟩) ?_ ?_)
  · by_cases e : q = p
    · subst e; rw [sp]; omega
    · rw [sq q e]; exact Nat.le_refl _
  · rintro rfl; simp [lvQ] at hi
  · rintro rfl; simp [lvQ] at hi
  · rintro rfl; simp [lvQ] at hi
  · rintro rfl; simp [lvQ] at hi
  · rintro rfl; simp [lvQ] at hi
  · rintro rfl; simp [lvQ] at hi
  · rw [ev _ (by simp) (by simp) (by simp) (by simp) (by simp) (by simp)]
  · rw [ev _ (by simp) (by simp) (by simp) (by simp) (by simp) (by simp)]; exact hL.1.1.2.1
  · refine ⟨by rw [sp]; omega, by rw [e5, if_neg (by omega)]; exact w2, by rw [e5, if_pos ⟨rfl, rfl⟩, sp], fun j hj => ?_⟩
    rw [sp] at hj
    by_cases ej : j = k
    · subst ej
      refine ⟨by rw [e7k]; exact hkd, ?_, fun w hw => ⟨by rw [e8k w hw, cp, if_pos rfl]; rfl, by rw [cp, if_pos rfl]; omega, fun i hi => absurd hi (by rw [cp, if_pos rfl]; omega)⟩⟩
      rw [e7k]
      rcases hpa with z | ⟨q, z1, z2, z3⟩
      · exact Or.inl z
      · exact Or.inr ⟨q, by omega, z2, by rw [e7 q (by omega)]; exact z3⟩
    · obtain ⟨y1, y2, y3⟩ := w4 j (by omega)
      refine ⟨by rw [e7 j ej]; exact y1, ?_, fun w hw => ?_⟩
      · rw [e7 j ej]
        rcases y2 with z | ⟨q, z1, z2, z3⟩
        · exact Or.inl z
        · exact Or.inr ⟨q, z1, z2, by rw [e7 q (by omega)]; exact z3⟩
      · obtain ⟨x1, x2, x3⟩ := y3 w hw
        rw [cp, if_neg ej, e8 j w ej]
        exact ⟨x1, x2, fun i hi => by rw [e10, sp, hk]; exact sCV_mono (x3 i hi)⟩
  · refine ⟨by rw [e53]; exact m4, fun j hj => ?_⟩
    rw [sp] at hj
    by_cases ej : j = k
    · subst ej
      rw [e7k]
      exact ⟨Or.inr rfl, Or.inl rfl, by show (1 : Int32) ≤ 10; decide, by show (10 : Int32) ≤ 99; decide⟩
    · rw [e7 j ej]; exact m5 j (by omega)
/-- a condition is added -/
theorem sCond_CV {n : Nat} {so a b : Int32} (h8 : n ≤ 8) (h : sCond n so a b = true) : sCV (rC so a b) n := by
  unfold sCond at h
  have k : ∀ {x : Int32} {q : Nat}, q < 2 ^ 31 → sIn x 0 (nI q) = true → ∃ i : Nat, i < q ∧ x = nI i := fun {x q} hq hx => by
    unfold sIn at hx
    rw [Bool.and_eq_true] at hx
    have h1 : ¬ x < 0 := by simpa using hx.1
    have h2 : ¬ nI q ≤ x := by simpa using hx.2
    obtain ⟨i, hi2, hi1⟩ := nI_of h1
    refine ⟨i, ?_, hi1⟩
    rw [hi1] at h2
    exact Nat.lt_of_not_le (fun z => h2 ((nI_leI (a := q) (b := i) hq hi2).mpr z))
  by_cases c1 : so = 100 ∨ so = 108
  · rw [if_pos c1, Bool.and_eq_true] at h
    obtain ⟨i, hi, e⟩ := k (q := 4) (by omega) h.1
    exact Or.inl ⟨c1, i, hi, e⟩
  · rw [if_neg c1] at h
    by_cases c2 : so = 101
    · exact Or.inr (Or.inl c2)
    · rw [if_neg c2] at h
      by_cases c3 : so = 99
      · rw [if_pos c3] at h
        obtain ⟨i, hi, e⟩ := k (by omega) h
        exact Or.inr (Or.inr (Or.inl ⟨c3, i, hi, e⟩))
      · rw [if_neg c3, Bool.and_eq_true] at h
        exact Or.inr (Or.inr (Or.inr (show so = 116 by simpa using h.1)))
theorem LV.addCond {h : xS} {I : xI} {jn : Nat} (hL : LV h I jn) {p j w : Nat} (hp : p < sNp h) (hj : j < sSz h p) (hw : w < 2) (hu : I [5, p] 3 = 0) (hm : sCn h p j w < 3) {so a b : Int32} (hc : sCond (sSz h p) so a b = true) : LV (hCo h p j w) (iCo h I p j w so a b) jn := by
  obtain ⟨m, hm0⟩ : ∃ m, m = sCn h p j w := ⟨_, rfl⟩
  obtain ⟨I', hI⟩ : ∃ z, z = iCo h I p j w so a b := ⟨_, rfl⟩
  rw [← hI]
  have hWp := hL.1.1.2.2 p hp
  obtain ⟨m4, m5⟩ := hL.1.2 p hp
  have cn : ∀ q i v, sCn (hCo h p j w) q i v = if q = p ∧ i = j ∧ v = w then sCn h q i v + 1 else sCn h q i v := fun q i v => rfl
  have ev : ∀ id, id ≠ [8, p, j, w] → id ≠ [10, p, j, w, m] → I' id = I id := fun id a1 a2 => by
    rw [hI]; unfold iCo; rw [← hm0, up_id a1, upR_id a2]
  have e5 : ∀ q, I' [5, q] = I [5, q] := fun q => ev _ (by simp) (by simp)
  have e7 : ∀ q i, I' [7, q, i] = I [7, q, i] := fun q i => ev _ (by simp) (by simp)
  have e8 : ∀ i v x, I' [8, p, i, v] x = if (i = j ∧ v = w) ∧ x = 1 then nI (m + 1) else I [8, p, i, v] x := fun i v x => by rw [hI]; simp [iCo, up, upR, ← hm0]
  have e10 : ∀ i v k, I' [10, p, i, v, k] = if (i = j ∧ v = w) ∧ k = m then rC so a b else I [10, p, i, v, k] := fun i v k => by
    by_cases e : (i = j ∧ v = w) ∧ k = m
    · obtain ⟨⟨rfl, rfl⟩, rfl⟩ := e
      rw [if_pos ⟨⟨rfl, rfl⟩, rfl⟩, hI]; unfold iCo; rw [← hm0, up_id (by simp), upR_at]
    · rw [if_neg e]; refine ev _ (by simp) (fun z => e ?_)
      simp only [List.cons.injEq, true_and, and_true] at z
      exact ⟨⟨z.1, z.2.1⟩, z.2.2⟩
  obtain ⟨w1, w2, w3, w4⟩ := hWp
  have cq : ∀ q, q ≠ p → sCn (hCo h p j w) q = sCn h q := fun q hq => by funext i v; exact if_neg (fun z => hq z.1)
  refine hL.plan (p := p) rfl (fun _ => rfl) (Nat.le_refl _) (fun q hq hn => ⟨rfl, cq q hn⟩) (fun q hq => Nat.le_refl _) (fun _ => hu) (fun id hi => ev id ?_ ?_) ?_ (hL.1.op (p := p) hL.1.1.1 (Or.inl rfl) hp ?_ (fun q hq hn => ⟨rfl, cq q hn, e5 q, fun i => e7 q i, fun i v => ev _ (by simp [hn]) (by simp), fun i v k => ev _ (by simp) (by simp [hn])⟩) ?_ ?_)
  · rintro rfl; simp [lvQ] at hi
  · rintro rfl; simp [lvQ] at hi
  · rw [ev _ (by simp) (by simp)]
  · rw [ev _ (by simp) (by simp)]; exact hL.1.1.2.1
  · refine ⟨w1, by rw [e5]; exact w2, by rw [e5]; exact w3, fun i hi => ?_⟩
    obtain ⟨y1, y2, y3⟩ := w4 i hi
    refine ⟨by rw [e7]; exact y1, ?_, fun v hv => ?_⟩
    · rw [e7]
      rcases y2 with z | ⟨q, z1, z2, z3⟩
      · exact Or.inl z
      · exact Or.inr ⟨q, z1, z2, by rw [e7]; exact z3⟩
    · obtain ⟨x1, x2, x3⟩ := y3 v hv
      rw [cn, e8]
      by_cases e : i = j ∧ v = w
      · obtain ⟨rfl, rfl⟩ := e
        rw [if_pos ⟨⟨rfl, rfl⟩, rfl⟩, if_pos ⟨rfl, rfl, rfl⟩, ← hm0]
        refine ⟨rfl, by omega, fun k hk => ?_⟩
        rw [e10]
        by_cases ek : k = m
        · rw [if_pos ⟨⟨rfl, rfl⟩, ek⟩]; exact sCond_CV w1 hc
        · rw [if_neg (fun z => ek z.2)]; exact x3 k (by omega)
      · rw [if_neg (fun z => e z.1), if_neg (fun z => e ⟨z.2.1, z.2.2⟩)]
        exact ⟨x1, x2, fun k hk => by rw [e10, if_neg (fun z => e z.1)]; exact x3 k hk⟩
  · exact ⟨by rw [e5]; exact m4, fun i hi => by rw [e7]; exact m5 i hi⟩
/-- a step's field f (required, limit, again) is set -/
theorem LV.flag {h : xS} {I : xI} {jn : Nat} (hL : LV h I jn) {p j : Nat} (hp : p < sNp h) (hj : j < sSz h p) (hu : I [5, p] 3 = 0) {f : Nat} (hf : 2 ≤ f) {v : Int32} (hv : (f = 4 → sBo v) ∧ (f = 6 → sBo v) ∧ (f = 5 → 1 ≤ v ∧ v ≤ 99)) : LV h (up I [7, p, j] f v) jn := by
  obtain ⟨I', hI⟩ : ∃ z, z = up I [7, p, j] f v := ⟨_, rfl⟩
  rw [← hI]
  obtain ⟨w1, w2, w3, w4⟩ := hL.1.1.2.2 p hp
  obtain ⟨m4, m5⟩ := hL.1.2 p hp
  have ev : ∀ id, id ≠ [7, p, j] → I' id = I id := fun id a2 => by rw [hI, up_id a2]
  have e7 : ∀ i x, I' [7, p, i] x = if i = j ∧ x = f then v else I [7, p, i] x := fun i x => by rw [hI]; simp [up]
  have e7n : ∀ i x, x < 2 → I' [7, p, i] x = I [7, p, i] x := fun i x z => by rw [e7, if_neg (fun y => by omega)]
  refine hL.plan (p := p) rfl (fun _ => rfl) (Nat.le_refl _) (fun q hq hn => ⟨rfl, rfl⟩) (fun q hq => Nat.le_refl _) (fun _ => hu) (fun id hi => ev id ?_) (by rw [ev _ (by simp)]) (hL.1.op (p := p) hL.1.1.1 (Or.inl rfl) hp (by rw [ev _ (by simp)]; exact hL.1.1.2.1) (fun q hq hn => ⟨rfl, rfl, ev _ (by simp), fun i => ev _ (by simp [hn]), fun i w => ev _ (by simp), fun i w k => ev _ (by simp)⟩) ?_ ?_)
  · rintro rfl; simp [lvQ] at hi
  · refine ⟨w1, by rw [ev _ (by simp)]; exact w2, by rw [ev _ (by simp)]; exact w3, fun i hi => ?_⟩
    obtain ⟨y1, y2, y3⟩ := w4 i hi
    refine ⟨by rw [e7n _ _ (by decide)]; exact y1, ?_, fun w hw => ?_⟩
    · rw [e7n _ _ (by decide)]
      rcases y2 with z | ⟨q, z1, z2, z3⟩
      · exact Or.inl z
      · exact Or.inr ⟨q, z1, z2, by rw [e7n _ _ (by decide)]; exact z3⟩
    · rw [ev _ (by simp)]
      obtain ⟨x1, x2, x3⟩ := y3 w hw
      exact ⟨x1, x2, fun k hk => by rw [ev _ (by simp)]; exact x3 k hk⟩
  · refine ⟨by rw [ev _ (by simp)]; exact m4, fun i hi => ?_⟩
    obtain ⟨z1, z2, z3, z4⟩ := m5 i hi
    refine ⟨?_, ?_, ?_, ?_⟩
    · rw [e7]; split
      · rename_i q; exact hv.1 q.2.symm
      · exact z1
    · rw [e7]; split
      · rename_i q; exact hv.2.1 q.2.symm
      · exact z2
    · rw [e7]; split
      · rename_i q; exact (hv.2.2 q.2.symm).1
      · exact z3
    · rw [e7]; split
      · rename_i q; exact (hv.2.2 q.2.symm).2
      · exact z4
