/-! WHAT HOLDS BETWEEN THE LAW'S CALLS: the plans, the cases, the clocks, the journal -/
def LPl (h : xS) (I : xI) (p : Nat) : Prop := mA h I p ∧ I [24, 9] p = I [5, p] 3 ∧ sBo (I [5, p] 3) ∧ (∀ j, j < sSz h p → sBo (I [7, p, j] 4) ∧ sBo (I [7, p, j] 6) ∧ 1 ≤ I [7, p, j] 5 ∧ I [7, p, j] 5 ≤ 99) ∧ ∀ j w, sSz h p ≤ j → j < 8 → w < 2 → I [23, 7, p, j] w = 0
def LP0 (I : xI) (p : Nat) : Prop := I [24, 8] p = 0 ∧ I [24, 9] p = 0 ∧ ∀ j w, j < 8 → w < 2 → I [23, 7, p, j] w = 0
def LPa (h : xS) (I : xI) : Prop := xWs0 h I ∧ I [20] 10 = nI (sNp h) ∧ (∀ p, p < sNp h → LPl h I p) ∧ ∀ p, sNp h ≤ p → p < 3 → LP0 I p
def LAg (I : xI) (c : Nat) : Prop := I [22, 12, c] = gX I c 1 ∧ I [22, 14, c] = gX I c 2 ∧ I [22, 15, c] = gX I c 4 ∧ I [22, 16, c] = gX I c 5 ∧ I [24, 17] c = gX I c 0 6 ∧ I [24, 13] c = gX I c 0 7 ∧ I [24, 18] c = gX I c 0 9 ∧ I [24, 19] c = gX I c 0 10
def LCc (h : xS) (I : xI) (c : Nat) : Prop := gX I c 0 8 = -1 ∧ I [24, 11] c = nI (sPl h c) ∧ sBo (gX I c 0 7) ∧ 0 < sSz h (sPl h c) ∧ ¬ I [5, sPl h c] 3 = 0
def LC0 (I : xI) (c : Nat) : Prop := I [22, 12, c] = r0 ∧ I [22, 14, c] = r0 ∧ I [22, 15, c] = r0 ∧ I [22, 16, c] = r0 ∧ I [24, 17] c = 0 ∧ I [24, 13] c = 0 ∧ I [24, 18] c = 0 ∧ I [24, 19] c = 0
def LC (h : xS) (I : xI) : Prop := xWc h I ∧ I [20] 20 = nI (sNc h) ∧ I [20] 21 = -1 ∧ (∀ c, c < sNc h → LAg I c ∧ LCc h I c) ∧ ∀ c, sNc h ≤ c → c < 4 → LC0 I c
def LK (h : xS) (I : xI) (jn : Nat) : Prop := ∀ c, c < sNc h → ∀ k, 0 ≤ (gX I c 4 k).toInt ∧ (gX I c 4 k).toInt ≤ 10 * (jn : Int)
def LJr (h : xS) (I : xI) (c jn : Nat) : Prop := ∀ p X, nrm X = X → sJV h I (nI c) (false, (p, X)) jn ∧ (sRep h I (nI c) (false, (p, X)) jn).1 = true ∧ (sRep h I (nI c) (false, (p, X)) jn).2.1 = sPl h c ∧ ∃ r, (sRep h I (nI c) (false, (p, X)) jn).2.2 = rq3 (gX I c) r
/-- the journal's rows: who, what, which plan -/
def LJ0 (h : xS) (I : xI) (jn : Nat) : Prop := (∀ r, r < jn → I [4, 0] r = -1 ∨ ∃ c, c < sNc h ∧ I [4, 0] r = nI c) ∧ (∀ r, r < jn → I [4, 1] r = 0 ∨ I [4, 1] r = 6 → ∃ q, q < sNp h ∧ I [4, 2] r = nI q ∧ ¬ I [5, q] 3 = 0) ∧ ∀ r, r < jn → ∃ w : Nat, w ≤ 7 ∧ I [4, 1] r = nI w ∧ (w ≠ 7 ∨ (1 ≤ sTim I r))
def LJ (h : xS) (I : xI) (jn : Nat) : Prop := I [3] 4 = nI jn ∧ LJ0 h I jn ∧ ∀ c, c < sNc h → LJr h I c jn
def LV (h : xS) (I : xI) (jn : Nat) : Prop := LPa h I ∧ LC h I ∧ LK h I jn ∧ LJ h I jn ∧ xCh (gX I 4)
theorem sVal_mono {h h' : xS} (hp : sNp h ≤ sNp h') (hs : ∀ q, q < sNp h → sSz h q ≤ sSz h' q) {w : Nat} {x : Int32} {p : Nat} (hv : sVal h w x p) : sVal h' w x p := by
  match w, hv with
  | 0, ⟨q, a, b⟩ => exact ⟨q, by omega, b⟩
  | 1, ⟨a, b⟩ => exact ⟨by omega, b⟩
  | 2, a => exact Nat.lt_of_lt_of_le a hp
  | 3, ⟨a, j, b, d⟩ => exact ⟨by omega, j, by have := hs p a; omega, d⟩
  | 4, a => exact Nat.lt_of_lt_of_le a hp
  | 5, a => exact Nat.lt_of_lt_of_le a hp
  | 6, ⟨q, a, b⟩ => exact ⟨q, by omega, b⟩
  | w + 7, a => exact Nat.lt_of_lt_of_le a hp
theorem LJr.congr {us : Nat → Prop} {h h' : xS} {I I' : xI} {c jn : Nat} (hJ : LJr h I c jn) (hu : sUs us h h' I I') (hr : ∀ r, r < jn → I' [4, 0] r = I [4, 0] r ∧ I' [4, 1] r = I [4, 1] r ∧ I' [4, 2] r = I [4, 2] r ∧ I' [4, 3] r = I [4, 3] r) (hj : sJu us I jn) (hw : ∀ r, r < jn → ∃ w : Nat, w ≤ 7 ∧ I [4, 1] r = nI w ∧ (w ≠ 7 ∨ (1 ≤ sTim I r)))
    (hp : sNp h ≤ sNp h') (hs : ∀ q, q < sNp h → sSz h q ≤ sSz h' q) (eX : gX I' c = gX I c) (ep : sPl h' c = sPl h c) : LJr h' I' c jn := by
  intro p X hX
  obtain ⟨a, b, d, r, f⟩ := hJ p X hX
  have R := fun k hk => (sRep_congr hu hr hj hw (nI c) (p, X) k hk).1
  rw [R jn (Nat.le_refl _)]
  refine ⟨fun k hk hb hc => ?_, b, d.trans ep.symm, r, by rw [eX]; exact f⟩
  rw [R k (by omega)] at hb ⊢
  obtain ⟨q0, q1, q2, q3⟩ := hr k hk
  have eB : ∀ z, sBeg I' (nI c) z k = sBeg I (nI c) z k := fun z => by unfold sBeg; rw [q0, q1]
  rw [eB] at hb
  rw [q0] at hc
  obtain ⟨w, h7, h8, h9, hv⟩ := a k hk hb hc
  refine ⟨w, h7, by rw [q1]; exact h8, fun z => ?_, by rw [q2]; exact sVal_mono hp hs hv⟩
  obtain ⟨d9, d10, d11⟩ := h9 z
  exact ⟨d9, d10, by rw [q2]; exact d11⟩
/-- ids that only the law's own things, the exception's number and what is replayed bear -/
def lvI (id : List Nat) : Bool := match id with
  | [20] => false
  | [24, 22] => false
  | [30] => false
  | [31] => false
  | [11, 4, _] => false
  | _ => true
theorem lvI_11 {c f : Nat} (h : c ≠ 4) : lvI [11, c, f] = true := by
  unfold lvI; split <;> first | rfl | simp_all
theorem pL_lvI {id : List Nat} (h : pL id = true) : lvI id = true := by
  unfold lvI
  split <;> first | rfl | (exfalso; revert h; simp [pL]; done)
theorem gX_same {I I' : xI} (e : ∀ id, lvI id = true → I' id = I id) {c : Nat} (hc : c ≠ 4) : gX I' c = gX I c := funext fun f => e _ (lvI_11 hc)
theorem LPl.same {h : xS} {I I' : xI} {p : Nat} (hL : LPl h I p) (e : ∀ id, lvI id = true → I' id = I id) : LPl h I' p := by
  obtain ⟨a, b, c, d, f⟩ := hL
  have e7 : ∀ j, I' [7, p, j] = I [7, p, j] := fun j => e _ rfl
  have e5 : I' [5, p] = I [5, p] := e _ rfl
  refine ⟨a.sameL (fun id hi => e id (pL_lvI hi)), by rw [e5, e _ rfl]; exact b, by rw [e5]; exact c, fun j hj => by rw [e7]; exact d j hj, fun j w h1 h2 h3 => by rw [e _ rfl]; exact f j w h1 h2 h3⟩
theorem LPa.same {h : xS} {I I' : xI} (hL : LPa h I) (e : ∀ id, lvI id = true → I' id = I id) (e10 : I' [20] 10 = I [20] 10) : LPa h I' := by
  obtain ⟨⟨a, b, c⟩, d, f, g⟩ := hL
  refine ⟨⟨a, by rw [e _ rfl]; exact b, fun p hp => (c p hp).sameL (fun id hi => e id (pL_lvI hi))⟩, by rw [e10]; exact d, fun p hp => (f p hp).same e, fun p h1 h2 => ?_⟩
  obtain ⟨z1, z2, z3⟩ := g p h1 h2
  exact ⟨by rw [e _ rfl]; exact z1, by rw [e _ rfl]; exact z2, fun j w hj hw => by rw [e _ rfl]; exact z3 j w hj hw⟩
theorem LAg.same {I I' : xI} {c : Nat} (hA : LAg I c) (e : ∀ id, lvI id = true → I' id = I id) (hc : c ≠ 4) : LAg I' c := by
  unfold LAg at *
  rw [gX_same e hc, e [22, 12, c] rfl, e [22, 14, c] rfl, e [22, 15, c] rfl, e [22, 16, c] rfl, e [24, 17] rfl, e [24, 13] rfl, e [24, 18] rfl, e [24, 19] rfl]
  exact hA
theorem LC.same {h : xS} {I I' : xI} (hL : LC h I) (e : ∀ id, lvI id = true → I' id = I id) (e20 : I' [20] 20 = I [20] 20) (e21 : I' [20] 21 = I [20] 21) : LC h I' := by
  obtain ⟨⟨a, b, c⟩, d, f, g, z⟩ := hL
  refine ⟨⟨a, by rw [e _ rfl]; exact b, fun q hq => ⟨(c q hq).1, by rw [gX_same e (by omega)]; exact (c q hq).2⟩⟩, by rw [e20]; exact d, by rw [e21]; exact f, fun q hq => ⟨(g q hq).1.same e (by omega), ?_⟩, fun q h1 h2 => ?_⟩
  · have w := (g q hq).2
    unfold LCc at *
    rw [gX_same e (by omega), e [24, 11] rfl, e [5, sPl h q] rfl]
    exact w
  · have w := z q h1 h2
    unfold LC0 at *
    rw [e [22, 12, q] rfl, e [22, 14, q] rfl, e [22, 15, q] rfl, e [22, 16, q] rfl, e [24, 17] rfl, e [24, 13] rfl, e [24, 18] rfl, e [24, 19] rfl]
    exact w
theorem LJ0.us {h : xS} {I : xI} {jn : Nat} (hJ : LJ0 h I jn) (h3 : sNp h ≤ 3) {us : Nat → Prop} (hu : ∀ q, q < sNp h → ¬ I [5, q] 3 = 0 → us q) : sJu us I jn := fun r hr z => by
  obtain ⟨q, a, b, c⟩ := hJ.2.1 r hr z
  rw [b, nI_clamp (by omega)]
  exact hu q a c
theorem LV.same {h : xS} {I I' : xI} {jn : Nat} (hL : LV h I jn) (e : ∀ id, lvI id = true → I' id = I id) (e10 : I' [20] 10 = I [20] 10) (e20 : I' [20] 20 = I [20] 20) (e21 : I' [20] 21 = I [20] 21) (h4 : xCh (gX I' 4)) : LV h I' jn := by
  obtain ⟨a, b, c, ⟨d1, d2, d3⟩, f⟩ := hL
  have n4 := b.1.1
  have e4 : ∀ k, I' [4, k] = I [4, k] := fun k => e _ rfl
  refine ⟨a.same e e10, b.same e e20 e21, fun q hq => by rw [gX_same e (by omega)]; exact c q hq, ⟨by rw [e _ rfl]; exact d1, ?_, fun q hq => ?_⟩, h4⟩
  · obtain ⟨x1, x2, x3⟩ := d2
    refine ⟨fun r hr => by rw [e4]; exact x1 r hr, fun r hr z => ?_, fun r hr => ?_⟩
    · rw [e4] at z
      obtain ⟨q, y1, y2, y3⟩ := x2 r hr z
      exact ⟨q, y1, by rw [e4]; exact y2, by rw [e _ rfl]; exact y3⟩
    · obtain ⟨w, y1, y2, y3⟩ := x3 r hr
      exact ⟨w, y1, by rw [e4]; exact y2, by unfold sTim at *; rw [e4, e4]; exact y3⟩
  · exact (d3 q hq).congr (us := fun _ => True) (fun p _ => ⟨vP_sameL (fun id hi => e id (pL_lvI hi)) p, vC_sameL (fun id hi => e id (pL_lvI hi)) p, rfl, rfl⟩) (fun r _ => by rw [e4, e4, e4, e4]; exact ⟨rfl, rfl, rfl, rfl⟩) (fun _ _ _ => trivial) d2.2.2 (Nat.le_refl _) (fun _ _ => Nat.le_refl _) (gX_same e (by omega)) rfl
/-- ids that a change of the plan p leaves alone -/
def lvQ (p : Nat) (id : List Nat) : Bool := match id with
  | [3] => true
  | [4, _] => true
  | [5, q] => decide (q ≠ p)
  | [7, q, _] => decide (q ≠ p)
  | [10, q, _, _, _] => decide (q ≠ p)
  | [11, _, _] => true
  | [22, f, _] => decide (4 ≤ f)
  | [24, f] => decide (10 ≤ f)
  | _ => false
theorem LV.plan {h h' : xS} {I I' : xI} {jn p : Nat} (hL : LV h I jn) (hNc : sNc h' = sNc h) (hPl : ∀ c, sPl h' c = sPl h c) (hNp : sNp h ≤ sNp h') (hq : ∀ q, q < sNp h → q ≠ p → sSz h' q = sSz h q ∧ sCn h' q = sCn h q) (hs : ∀ q, q < sNp h → sSz h q ≤ sSz h' q) (hun : p < sNp h → I [5, p] 3 = 0)
    (e : ∀ id, lvQ p id = true → I' id = I id) (e03 : I' [0] 3 = I [0] 3) (e20 : I' [20] 20 = I [20] 20) (e21 : I' [20] 21 = I [20] 21) (hP : LPa h' I') : LV h' I' jn := by
  obtain ⟨a, b, c, ⟨d1, d2, d3⟩, f⟩ := hL
  have gx : ∀ q, gX I' q = gX I q := fun q => funext fun k => e _ rfl
  have e4 : ∀ k, I' [4, k] = I [4, k] := fun k => e _ rfl
  have nep : ∀ q, q < sNp h → ¬ I [5, q] 3 = 0 → q ≠ p := fun q hq0 h0 z => h0 (z ▸ hun (z ▸ hq0))
  have e5 : ∀ q, q ≠ p → I' [5, q] = I [5, q] := fun q z => e _ (decide_eq_true z)
  obtain ⟨⟨b1, b2, b3⟩, b4, b5, b6, b7⟩ := b
  have cp : ∀ q, q < sNc h → sPl h q < sNp h ∧ sPl h q ≠ p := fun q hq0 => ⟨(b3 q hq0).1, nep _ (b3 q hq0).1 (b6 q hq0).2.2.2.2.2⟩
  refine ⟨hP, ⟨⟨by omega, by rw [e03, b2, hNc], fun q hq0 => ⟨?_, by rw [gx]; exact (b3 q (by omega)).2⟩⟩, by rw [e20, b4, hNc], by rw [e21]; exact b5, fun q hq0 => ?_, fun q h1 h2 => ?_⟩, fun q hq0 => by rw [gx]; exact c q (by omega), ⟨by rw [e _ rfl]; exact d1, ?_, fun q hq0 => ?_⟩, by rw [gx]; exact f⟩
  · rw [hPl]; have := (b3 q (by omega)).1; omega
  · obtain ⟨u1, u2, u3, u4, u5, u6⟩ := b6 q (by omega)
    have k := cp q (by omega)
    refine ⟨?_, ?_⟩
    · unfold LAg at *
      rw [gx, e [22, 12, q] rfl, e [22, 14, q] rfl, e [22, 15, q] rfl, e [22, 16, q] rfl, e [24, 17] rfl, e [24, 13] rfl, e [24, 18] rfl, e [24, 19] rfl]
      exact u1
    · unfold LCc
      rw [gx, hPl, e [24, 11] rfl, e5 _ k.2, (hq _ k.1 k.2).1]
      exact ⟨u2, u3, u4, u5, u6⟩
  · have w := b7 q (by omega) h2
    unfold LC0 at *
    rw [e [22, 12, q] rfl, e [22, 14, q] rfl, e [22, 15, q] rfl, e [22, 16, q] rfl, e [24, 17] rfl, e [24, 13] rfl, e [24, 18] rfl, e [24, 19] rfl]
    exact w
  · obtain ⟨x1, x2, x3⟩ := d2
    refine ⟨fun r hr => by rw [e4, hNc]; exact x1 r hr, fun r hr z => ?_, fun r hr => ?_⟩
    · rw [e4] at z
      obtain ⟨q, y1, y2, y3⟩ := x2 r hr z
      exact ⟨q, by omega, by rw [e4]; exact y2, by rw [e5 q (nep q y1 y3)]; exact y3⟩
    · obtain ⟨w, y1, y2, y3⟩ := x3 r hr
      exact ⟨w, y1, by rw [e4]; exact y2, by unfold sTim at *; rw [e4, e4]; exact y3⟩
  · refine (d3 q (by omega)).congr (us := fun q => q < sNp h ∧ q ≠ p) (fun q z => ⟨funext fun j => e _ (decide_eq_true z.2), funext fun j => funext fun w => funext fun k => e _ (decide_eq_true z.2), hq q z.1 z.2⟩) (fun r _ => by rw [e4, e4, e4, e4]; exact ⟨rfl, rfl, rfl, rfl⟩) (d2.us a.1.1 (fun q z1 z2 => ⟨z1, nep q z1 z2⟩)) d2.2.2 hNp hs (gx q) (hPl q)
