/-! CONTRACTS: plans, steps, conditions and cases are made -/
/-- the shape behind a new plan, a new step of the plan p, one more condition, a new case of the plan p -/
def hPn (h : xS) : xS := (sNp h + 1, sNc h, fun q => if q = sNp h then 0 else sSz h q, sCn h, sPl h)
def hSt (h : xS) (p : Nat) : xS := (sNp h, sNc h, fun q => if q = p then sSz h p + 1 else sSz h q, fun q j w => if q = p ∧ j = sSz h p then 0 else sCn h q j w, sPl h)
def hCo (h : xS) (p j w : Nat) : xS := (sNp h, sNc h, sSz h, fun q i v => if q = p ∧ i = j ∧ v = w then sCn h q i v + 1 else sCn h q i v, sPl h)
def hBe (h : xS) (p : Nat) : xS := (sNp h, sNc h + 1, sSz h, sCn h, fun c => if c = sNc h then p else sPl h c)
theorem upR_ap {α : Type} (f : List Nat → Nat → α) (i : List Nat) (r : Nat → α) (j : List Nat) (q : Nat) : upR f i r j q = if j = i then r q else f j q := by unfold upR; split <;> rfl
set_option maxHeartbeats 4000000 in
theorem xD_Pn (h : xS)  (h3 : sNp h < 3) {i : List Nat} (hi : xD (hPn h) i) : i = [6, sNp h] ∨ i = [5, sNp h] ∨ xD h i := by
  unfold xD at hi ⊢
  split at hi <;> (first | (simp [hPn, hSt, hCo, hBe] at hi ⊢; done) | (simp [hPn, hSt, hCo, hBe] at hi ⊢; omega) | (simp [hPn, hSt, hCo, hBe] at hi ⊢; grind))
set_option maxHeartbeats 4000000 in
theorem xF_Pn (h : xS)  (h3 : sNp h < 3) (i : List Nat) (hi : xD (hPn h) i) : xFh (hPn h) i = (up (upR (upR (xFh h) [5, (sNp h)] (q1 1 [6, (sNp h)])) [6, (sNp h)] q0) [1] (sNp h) (some [5, sNp h])) i := by
  obtain ⟨np, nc, sz, cn, pl⟩ := h
  funext q
  unfold xD at hi
  split at hi <;> simp only [hPn, hSt, hCo, hBe, sNp, sNc, sSz, sCn, sPl] at * <;> (first | (simp [hPn, hSt, hCo, hBe, up, upR_ap, xFh, q0, q1, qS, qK]; done) | (simp [up, upR_ap, xFh, q0, q1, qS, qK]; grind) | (rcases q with _ | _ | _ | _ | _ | _ | q <;> (first | (simp [up, upR_ap, xFh, q0, q1, qS, qK]; done) | (simp [up, upR_ap, xFh, q0, q1, qS, qK]; grind))))
set_option maxHeartbeats 4000000 in
theorem xD_St (h : xS) (p : Nat) (hp : p < sNp h) (h8 : sSz h p < 8) {i : List Nat} (hi : xD (hSt h p) i) : i = [9, p, sSz h p, 1] ∨ i = [8, p, sSz h p, 1] ∨ i = [9, p, sSz h p, 0] ∨ i = [8, p, sSz h p, 0] ∨ i = [7, p, sSz h p] ∨ xD h i := by
  unfold xD at hi ⊢
  split at hi <;> (first | (simp [hPn, hSt, hCo, hBe] at hi ⊢; done) | (simp [hPn, hSt, hCo, hBe] at hi ⊢; omega) | (simp [hPn, hSt, hCo, hBe] at hi ⊢; grind))
set_option maxHeartbeats 4000000 in
theorem xF_St (h : xS) (p : Nat) (hp : p < sNp h) (h8 : sSz h p < 8) (i : List Nat) (hi : xD (hSt h p) i) : xFh (hSt h p) i = (up (upR (upR (upR (upR (upR (xFh h) [7, p, sSz h p] (qS p (sSz h p))) [8, p, sSz h p, 0] (q1 0 [9, p, sSz h p, 0])) [9, p, sSz h p, 0] q0) [8, p, sSz h p, 1] (q1 0 [9, p, sSz h p, 1])) [9, p, sSz h p, 1] q0) [6, p] (sSz h p) (some [7, p, sSz h p])) i := by
  obtain ⟨np, nc, sz, cn, pl⟩ := h
  funext q
  unfold xD at hi
  split at hi <;> simp only [hPn, hSt, hCo, hBe, sNp, sNc, sSz, sCn, sPl] at * <;> (first | (simp [hPn, hSt, hCo, hBe, up, upR_ap, xFh, q0, q1, qS, qK]; done) | (simp [up, upR_ap, xFh, q0, q1, qS, qK]; grind) | (rcases q with _ | _ | _ | _ | _ | _ | q <;> (first | (simp [up, upR_ap, xFh, q0, q1, qS, qK]; done) | (simp [up, upR_ap, xFh, q0, q1, qS, qK]; grind))))
set_option maxHeartbeats 4000000 in
theorem xD_Co (h : xS) (p j w : Nat) (hp : p < sNp h) (hj : j < sSz h p) (hw : w < 2) (h3 : sCn h p j w < 3) {i : List Nat} (hi : xD (hCo h p j w) i) : i = [10, p, j, w, sCn h p j w] ∨ xD h i := by
  unfold xD at hi ⊢
  split at hi <;> (first | (simp [hPn, hSt, hCo, hBe] at hi ⊢; done) | (simp [hPn, hSt, hCo, hBe] at hi ⊢; omega) | (simp [hPn, hSt, hCo, hBe] at hi ⊢; grind))
set_option maxHeartbeats 4000000 in
theorem xF_Co (h : xS) (p j w : Nat) (hp : p < sNp h) (hj : j < sSz h p) (hw : w < 2) (h3 : sCn h p j w < 3) (i : List Nat) (hi : xD (hCo h p j w) i) : xFh (hCo h p j w) i = (up (xFh h) [9, p, j, w] (sCn h p j w) (some [10, p, j, w, sCn h p j w])) i := by
  obtain ⟨np, nc, sz, cn, pl⟩ := h
  funext q
  unfold xD at hi
  split at hi <;> simp only [hPn, hSt, hCo, hBe, sNp, sNc, sSz, sCn, sPl] at * <;> (first | (simp [hPn, hSt, hCo, hBe, up, upR_ap, xFh, q0, q1, qS, qK]; done) | (simp [up, upR_ap, xFh, q0, q1, qS, qK]; grind) | (rcases q with _ | _ | _ | _ | _ | _ | q <;> (first | (simp [up, upR_ap, xFh, q0, q1, qS, qK]; done) | (simp [up, upR_ap, xFh, q0, q1, qS, qK]; grind))))
set_option maxHeartbeats 4000000 in
theorem xD_Be (h : xS) (p : Nat) (hp : p < sNp h) (h4 : sNc h < 4) {i : List Nat} (hi : xD (hBe h p) i) : i = [11, sNc h, 5] ∨ i = [11, sNc h, 4] ∨ i = [11, sNc h, 3] ∨ i = [11, sNc h, 2] ∨ i = [11, sNc h, 1] ∨ i = [11, sNc h, 0] ∨ xD h i := by
  unfold xD at hi ⊢
  split at hi <;> (first | (simp [hPn, hSt, hCo, hBe] at hi ⊢; done) | (simp [hPn, hSt, hCo, hBe] at hi ⊢; omega) | (simp [hPn, hSt, hCo, hBe] at hi ⊢; grind))
set_option maxHeartbeats 4000000 in
theorem xF_Be (h : xS) (p : Nat) (hp : p < sNp h) (h4 : sNc h < 4) (i : List Nat) (hi : xD (hBe h p) i) : xFh (hBe h p) i = (up (upR (upR (upR (upR (upR (upR (xFh h) [11, sNc h, 0] (qK (sNc h) [5, p])) [11, sNc h, 1] q0) [11, sNc h, 2] q0) [11, sNc h, 3] q0) [11, sNc h, 4] q0) [11, sNc h, 5] q0) [2] (sNc h) (some [11, sNc h, 0])) i := by
  obtain ⟨np, nc, sz, cn, pl⟩ := h
  funext q
  unfold xD at hi
  split at hi <;> simp only [hPn, hSt, hCo, hBe, sNp, sNc, sSz, sCn, sPl] at * <;> (first | (simp [hPn, hSt, hCo, hBe, up, upR_ap, xFh, q0, q1, qS, qK]; done) | (simp [up, upR_ap, xFh, q0, q1, qS, qK]; grind) | (rcases q with _ | _ | _ | _ | _ | _ | q <;> (first | (simp [up, upR_ap, xFh, q0, q1, qS, qK]; done) | (simp [up, upR_ap, xFh, q0, q1, qS, qK]; grind))))