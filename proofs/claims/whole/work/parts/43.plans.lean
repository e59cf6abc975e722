/-! THE PLANS CHANGE -/
def eqQ (h h' : xS) (I I' : xI) (q : Nat) : Prop := sSz h' q = sSz h q ∧ sCn h' q = sCn h q ∧ I' [5, q] = I [5, q] ∧ (∀ j, I' [7, q, j] = I [7, q, j]) ∧ (∀ j w, I' [8, q, j, w] = I [8, q, j, w]) ∧ (∀ j w k, I' [10, q, j, w, k] = I [10, q, j, w, k]) ∧ (∀ f, f < 4 → I' [22, f, q] = I [22, f, q]) ∧ (∀ f j, I' [23, f, q, j] = I [23, f, q, j]) ∧ I' [24, 8] q = I [24, 8] q ∧ I' [24, 9] q = I [24, 9] q
theorem xWp.mv {h h' : xS} {I I' : xI} {q : Nat} (hW : xWp h I q) (e : eqQ h h' I I' q) : xWp h' I' q := by
  obtain ⟨e1, e2, e3, e4, e5, e6, -, -, -, -⟩ := e
  unfold xWp xWs at *
  rw [e1, e2, e3]
  simp only [e4, e5, e6]
  exact hW
theorem LPl.mv {h h' : xS} {I I' : xI} {q : Nat} (hL : LPl h I q) (e : eqQ h h' I I' q) : LPl h' I' q := by
  obtain ⟨e1, e2, e3, e4, e5, e6, e7, e8, e9, e10⟩ := e
  unfold LPl mA mS at *
  rw [e1, e2, e3, e9, e10, e7 0 (by omega), e7 1 (by omega), e7 2 (by omega), e7 3 (by omega)]
  simp only [e4, e6, e8]
  exact hL
theorem LP0.mv {h h' : xS} {I I' : xI} {q : Nat} (hL : LP0 I q) (e : eqQ h h' I I' q) : LP0 I' q := by
  obtain ⟨-, -, -, -, -, -, -, e8, e9, e10⟩ := e
  unfold LP0 at *
  rw [e9, e10]
  simp only [e8]
  exact hL
theorem LPa.op {h h' : xS} {I I' : xI} {p : Nat} (hL : LPa h I) (h3 : sNp h' ≤ 3) (hn : sNp h' = sNp h ∨ (sNp h' = sNp h + 1 ∧ p = sNp h)) (hp : p < sNp h') (h01 : I' [0] 1 = nI (sNp h')) (h10 : I' [20] 10 = nI (sNp h')) (heq : ∀ q, q < 3 → q ≠ p → eqQ h h' I I' q) (hW : xWp h' I' p) (hl : LPl h' I' p) : LPa h' I' := by
  obtain ⟨⟨a, b, c⟩, d, f, g⟩ := hL
  refine ⟨⟨h3, h01, fun q hq => ?_⟩, h10, fun q hq => ?_, fun q h1 h2 => ?_⟩
  · by_cases e : q = p
    · subst e; exact hW
    · exact (c q (by omega)).mv (heq q (by omega) e)
  · by_cases e : q = p
    · subst e; exact hl
    · exact (f q (by omega)).mv (heq q (by omega) e)
  · exact (g q (by omega) h2).mv (heq q h2 (by omega))
/-- a plan is added -/
theorem LV.addPlan {h : xS} {I : xI} {jn : Nat} (hL : LV h I jn) (h3 : sNp h < 3) (o v t : Int32) : LV (hPn h) (up (up (up (iPn h I) [30] 0 o) [20] 23 t) [20] 10 (nI (sNp h + 1))) jn := by
  obtain ⟨I', hI⟩ : ∃ z, z = up (up (up (iPn h I) [30] 0 o) [20] 23 t) [20] 10 (nI (sNp h + 1)) := ⟨_, rfl⟩
  rw [← hI]
  have ev : ∀ id, id ≠ [20] → id ≠ [30] → id ≠ [0] → id ≠ [5, sNp h] → id ≠ [6, sNp h] → I' id = I id := fun id a b c d f => by
    rw [hI, up_id a, up_id a, up_id b]; unfold iPn; rw [up_id c, upR_id f, upR_id d]
  obtain ⟨z1, z2, z3⟩ := hL.1.2.2.2 (sNp h) (Nat.le_refl _) h3
  have s0 : sSz (hPn h) (sNp h) = 0 := if_pos rfl
  have e5 : I' [5, sNp h] = rP (nI (sNp h)) := by rw [hI, up_id (by simp), up_id (by simp), up_id (by simp)]; unfold iPn; rw [up_id (by simp), upR_id (by simp), upR_at]
  have sq : ∀ q, q ≠ sNp h → sSz (hPn h) q = sSz h q := fun q hq => if_neg hq
  have e8 : I' [24, 8] = I [24, 8] := ev _ (by simp) (by simp) (by simp) (by simp) (by simp)
  have e9 : I' [24, 9] = I [24, 9] := ev _ (by simp) (by simp) (by simp) (by simp) (by simp)
  refine hL.plan (p := sNp h) rfl (fun _ => rfl) (by show _ ≤ sNp h + 1; omega) (fun q hq hn => ⟨sq q hn, rfl⟩) (fun q hq => by rw [sq q (by omega)]; exact Nat.le_refl _) (fun z => absurd z (by omega)) (fun id hi => ev id ?_ ?_ ?_ ?_ ?_) ?_ ?_ ?_ (hL.1.op (p := sNp h) (by show sNp h + 1 ≤ 3; omega) (Or.inr ⟨rfl, rfl⟩) (by show _ < sNp h + 1; omega) ?_ ?_ (fun q hq hn => ⟨sq q hn, rfl, ev _ (by simp) (by simp) (by simp) (by simp [hn]) (by simp), fun j => ev _ (by simp) (by simp) (by simp) (by simp) (by simp), fun j w => ev _ (by simp) (by simp) (by simp) (by simp) (by simp), fun j w k => ev _ (by simp) (by simp) (by simp) (by simp) (by simp), fun f _ => ev _ (by simp) (by simp) (by simp) (by simp) (by simp), fun f j => ev _ (by simp) (by simp) (by simp) (by simp) (by simp), by rw [e8], by rw [e9]⟩) ?_ ?_)
  · rintro rfl; simp [lvQ] at hi
  · rintro rfl; simp [lvQ] at hi
  · rintro rfl; simp [lvQ] at hi
  · rintro rfl; simp [lvQ] at hi
  · rintro rfl; simp [lvQ] at hi
  · rw [hI, up_id (by simp), up_id (by simp), up_id (by simp)]; unfold iPn; rw [up_ne (by decide), upR_id (by simp), upR_id (by simp)]
  · rw [hI, up_ne (by decide), up_ne (by decide), up_id (by simp)]; unfold iPn; rw [up_id (by simp), upR_id (by simp), upR_id (by simp)]
  · rw [hI, up_ne (by decide), up_ne (by decide), up_id (by simp)]; unfold iPn; rw [up_id (by simp), upR_id (by simp), upR_id (by simp)]
  · rw [hI, up_id (by simp), up_id (by simp), up_id (by simp)]; unfold iPn; exact up_at
  · rw [hI]; exact up_at
  · refine ⟨by rw [s0]; omega, by rw [e5]; rfl, by rw [e5, s0]; rfl, fun j hj => absurd hj (by rw [s0]; omega)⟩
  · refine ⟨⟨by rw [e8, s0]; exact z1, fun j hj => absurd hj (by rw [s0]; omega)⟩, by rw [e9, e5]; exact z2, by rw [e5]; exact Or.inl rfl, fun j hj => absurd hj (by rw [s0]; omega), fun j w _ h8 hw => by rw [ev _ (by simp) (by simp) (by simp) (by simp) (by simp)]; exact z3 j w h8 hw⟩
theorem sCV_mono {C : Nat → Int32} {n : Nat} (h : sCV C n) : sCV C (n + 1) := by
  rcases h with h | h | ⟨h, a, b, d⟩ | h
  · exact Or.inl h
  · exact Or.inr (Or.inl h)
  · exact Or.inr (Or.inr (Or.inl ⟨h, a, by omega, d⟩))
  · exact Or.inr (Or.inr (Or.inr h))
/-- a step is added -/
theorem LV.addStep {h : xS} {I : xI} {jn : Nat} (hL : LV h I jn) {p : Nat} (hp : p < sNp h) (hu : I [5, p] 3 = 0) (h8 : sSz h p < 8) {kd pa : Int32} (hkd : kd = 115 ∨ kd = 116 ∨ kd = 109) (hpa : pa = -1 ∨ ∃ q, q < sSz h p ∧ pa = nI q ∧ I [7, p, q] 0 = 115) (o : Int32) : LV (hSt h p) (mStp (up (iSt h I p kd pa) [30] 0 o) p (sSz h p) kd pa) jn := by
  obtain ⟨k, hk⟩ : ∃ k, k = sSz h p := ⟨_, rfl⟩
  obtain ⟨I', hI⟩ : ∃ z, z = mStp (up (iSt h I p kd pa) [30] 0 o) p (sSz h p) kd pa := ⟨_, rfl⟩
  rw [← hI]
  have h3 : p < 3 := by have := hL.1.1.1; omega
  have hWp := hL.1.1.2.2 p hp
  obtain ⟨⟨m1, m2⟩, m3, m4, m5, m6⟩ := hL.1.2.2.1 p hp
  have sp : sSz (hSt h p) p = k + 1 := (show sSz (hSt h p) p = sSz h p + 1 from if_pos rfl).trans (by rw [hk])
  have sq : ∀ q, q ≠ p → sSz (hSt h p) q = sSz h q := fun q hq => if_neg hq
  have cq : ∀ q, q ≠ p → sCn (hSt h p) q = sCn h q := fun q hq => by funext j w; exact if_neg (fun z => hq z.1)
  have cp : ∀ j w, sCn (hSt h p) p j w = if j = k then 0 else sCn h p j w := fun j w => by
    show (if p = p ∧ j = sSz h p then 0 else sCn h p j w) = _
    rw [← hk]
    by_cases e : j = k
    · rw [if_pos ⟨rfl, e⟩, if_pos e]
    · rw [if_neg (fun z => e z.2), if_neg e]
  have ev : ∀ id, id ≠ [20] → id ≠ [30] → id ≠ [24, 8] → id ≠ [22, 0, p] → id ≠ [22, 1, p] → id ≠ [22, 2, p] → id ≠ [22, 3, p] → id ≠ [5, p] → id ≠ [7, p, k] → id ≠ [8, p, k, 0] → id ≠ [8, p, k, 1] → id ≠ [9, p, k, 0] → id ≠ [9, p, k, 1] → I' id = I id := fun id a0 a1 a2 a3 a4 a5 a6 a7 a8 a9 a10 a11 a12 => by
    rw [hI, ← hk]; unfold mStp; rw [up_id a2, up_id a6, up_id a5, up_id a4, up_id a3, up_id a0, up_id a1]; unfold iSt; rw [← hk, up_id a7, upR_id a12, upR_id a10, upR_id a11, upR_id a9, upR_id a8]
  have e7 : ∀ j, j ≠ k → I' [7, p, j] = I [7, p, j] := fun j hj => ev _ (by simp) (by simp) (by simp) (by simp) (by simp) (by simp) (by simp) (by simp) (by simp [hj]) (by simp) (by simp) (by simp) (by simp)
  have e7k : I' [7, p, k] = rS kd pa := by rw [hI, ← hk]; unfold mStp; rw [up_id (by simp), up_id (by simp), up_id (by simp), up_id (by simp), up_id (by simp), up_id (by simp), up_id (by simp)]; unfold iSt; rw [← hk, up_id (by simp), upR_id (by simp), upR_id (by simp), upR_id (by simp), upR_id (by simp), upR_at]
  have e8 : ∀ j w, j ≠ k → I' [8, p, j, w] = I [8, p, j, w] := fun j w hj => ev _ (by simp) (by simp) (by simp) (by simp) (by simp) (by simp) (by simp) (by simp) (by simp) (by simp [hj]) (by simp [hj]) (by simp) (by simp)
  have e8k : ∀ w, w < 2 → I' [8, p, k, w] = r0 := fun w hw => by
    rw [hI, ← hk]; unfold mStp; rw [up_id (by simp), up_id (by simp), up_id (by simp), up_id (by simp), up_id (by simp), up_id (by simp), up_id (by simp)]; unfold iSt; rw [← hk, up_id (by simp), upR_id (by simp)]
    rcases (show w = 0 ∨ w = 1 by omega) with rfl | rfl
    · rw [upR_id (by simp), upR_id (by simp), upR_at]
    · rw [upR_at]
  have e10 : ∀ j w i, I' [10, p, j, w, i] = I [10, p, j, w, i] := fun j w i => ev _ (by simp) (by simp) (by simp) (by simp) (by simp) (by simp) (by simp) (by simp) (by simp) (by simp) (by simp) (by simp) (by simp)
  have e23 : ∀ f q j, I' [23, f, q, j] = I [23, f, q, j] := fun f q j => ev _ (by simp) (by simp) (by simp) (by simp) (by simp) (by simp) (by simp) (by simp) (by simp) (by simp) (by simp) (by simp) (by simp)
  have e9 : I' [24, 9] = I [24, 9] := ev _ (by simp) (by simp) (by simp) (by simp) (by simp) (by simp) (by simp) (by simp) (by simp) (by simp) (by simp) (by simp) (by simp)
  have e248 : ∀ q, I' [24, 8] q = if q = p then nI (k + 1) else I [24, 8] q := fun q => by rw [hI, ← hk]; simp [mStp, iSt, up, upR, ← hk]
  have e220 : ∀ j, I' [22, 0, p] j = if j = k then kd else I [22, 0, p] j := fun j => by rw [hI, ← hk]; simp [mStp, iSt, up, upR, ← hk]
  have e221 : ∀ j, I' [22, 1, p] j = if j = k then pa else I [22, 1, p] j := fun j => by rw [hI, ← hk]; simp [mStp, iSt, up, upR, ← hk]
  have e222 : ∀ j, I' [22, 2, p] j = if j = k then b01 (decide (kd = 116)) else I [22, 2, p] j := fun j => by rw [hI, ← hk]; simp [mStp, iSt, up, upR, ← hk]
  have e223 : ∀ j, I' [22, 3, p] j = if j = k then 10 else I [22, 3, p] j := fun j => by rw [hI, ← hk]; simp [mStp, iSt, up, upR, ← hk]
  have e5 : ∀ q i, I' [5, q] i = if q = p ∧ i = 2 then nI (k + 1) else I [5, q] i := fun q i => by rw [hI, ← hk]; simp [mStp, iSt, up, upR, ← hk]
  have e5q : ∀ q, q ≠ p → I' [5, q] = I [5, q] := fun q hq => by funext i; rw [e5, if_neg (fun z => hq z.1)]
  have e53 : I' [5, p] 3 = I [5, p] 3 := by rw [e5, if_neg (by omega)]
  obtain ⟨w1, w2, w3, w4⟩ := hWp
  refine hL.plan (p := p) rfl (fun _ => rfl) (Nat.le_refl _) (fun q hq hn => ⟨sq q hn, cq q hn⟩) (fun q hq => ?_) (fun _ => hu) (fun id hi => ev id ?_ ?_ ?_ ?_ ?_ ?_ ?_ ?_ ?_ ?_ ?_ ?_ ?_) ?_ ?_ ?_ (hL.1.op (p := p) hL.1.1.1 (Or.inl rfl) hp ?_ ?_ (fun q hq hn => ⟨sq q hn, cq q hn, e5q q hn, fun j => ev _ (by simp) (by simp) (by simp) (by simp) (by simp) (by simp) (by simp) (by simp) (by simp [hn]) (by simp) (by simp) (by simp) (by simp), fun j w => ev _ (by simp) (by simp) (by simp) (by simp) (by simp) (by simp) (by simp) (by simp) (by simp) (by simp [hn]) (by simp [hn]) (by simp) (by simp), fun j w i => ev _ (by simp) (by simp) (by simp) (by simp) (by simp) (by simp) (by simp) (by simp) (by simp) (by simp) (by simp) (by simp) (by simp), fun f _ => ev _ (by simp) (by simp) (by simp) (by simp [hn]) (by simp [hn]) (by simp [hn]) (by simp [hn]) (by simp) (by simp) (by simp) (by simp) (by simp) (by simp), fun f j => e23 f q j, by rw [e248, if_neg hn], by rw [e9]⟩) ?_ ?_)
  · by_cases e : q = p
    · subst e; rw [sp]; omega
    · rw [sq q e]; exact Nat.le_refl _
  · rintro rfl; simp [lvQ] at hi
  · rintro rfl; simp [lvQ] at hi
  · rintro rfl; simp [lvQ] at hi
  · rintro rfl; simp [lvQ] at hi
  · rintro rfl; simp [lvQ] at hi
  · rintro rfl; simp [lvQ] at hi
  · rintro rfl; simp [lvQ] at hi
  · rintro rfl; simp [lvQ] at hi
  · rintro rfl; simp [lvQ] at hi
  · rintro rfl; simp [lvQ] at hi
  · rintro rfl; simp [lvQ] at hi
  · rintro rfl; simp [lvQ] at hi
  · rintro rfl; simp [lvQ] at hi
  · rw [ev _ (by simp) (by simp) (by simp) (by simp) (by simp) (by simp) (by simp) (by simp) (by simp) (by simp) (by simp) (by simp) (by simp)]
  · rw [hI]; simp [mStp, iSt, up, upR]
  · rw [hI]; simp [mStp, iSt, up, upR]
  · rw [ev _ (by simp) (by simp) (by simp) (by simp) (by simp) (by simp) (by simp) (by simp) (by simp) (by simp) (by simp) (by simp) (by simp)]; exact hL.1.1.2.1
  · rw [hI]; simp [mStp, iSt, up, upR]; exact hL.1.2.1
  · refine ⟨by rw [sp]; omega, by rw [e5, if_neg (by omega)]; exact w2, by rw [e5, if_pos ⟨rfl, rfl⟩, sp], fun j hj => ?_⟩
    rw [sp] at hj
    by_cases ej : j = k
    · subst ej
      refine ⟨by rw [e7k]; exact hkd, ?_, fun w hw => ⟨by rw [e8k w hw, cp, if_pos rfl]; rfl, by rw [cp, if_pos rfl]; omega, fun i hi => absurd hi (by rw [cp, if_pos rfl]; omega)⟩⟩
      rw [e7k]
      rcases hpa with z | ⟨q, z1, z2, z3⟩
      · exact Or.inl z
      · exact Or.inr ⟨q, by omega, z2, by rw [e7 q (by omega)]; exact z3⟩
    · obtain ⟨y1, y2, y3⟩ := w4 j (by omega)
      refine ⟨by rw [e7 j ej]; exact y1, ?_, fun w hw => ?_⟩
      · rw [e7 j ej]
        rcases y2 with z | ⟨q, z1, z2, z3⟩
        · exact Or.inl z
        · exact Or.inr ⟨q, z1, z2, by rw [e7 q (by omega)]; exact z3⟩
      · obtain ⟨x1, x2, x3⟩ := y3 w hw
        rw [cp, if_neg ej, e8 j w ej]
        exact ⟨x1, x2, fun i hi => by rw [e10, sp, hk]; exact sCV_mono (x3 i hi)⟩
  · refine ⟨⟨by rw [e248, if_pos rfl, sp], fun j hj => ?_⟩, by rw [e9, e53]; exact m3, by rw [e53]; exact m4, fun j hj => ?_, fun j w h1 h2 hw => ?_⟩
    · rw [sp] at hj
      unfold mS
      rw [e220, e221, e222, e223]
      by_cases ej : j = k
      · subst ej
        rw [if_pos rfl, if_pos rfl, if_pos rfl, if_pos rfl, e7k]
        refine ⟨rfl, rfl, fun z => ?_, fun z => ?_, rfl, fun w hw => ⟨?_, fun i hi => absurd hi (by rw [cp, if_pos rfl]; omega)⟩⟩
        · have z' : kd = 116 := z
          rw [z']; rfl
        · have z' : kd = 109 := z
          rw [z']; rfl
        · rw [e23, cp, if_pos rfl]; exact m6 _ w (by omega) (by omega) hw
      · rw [if_neg ej, if_neg ej, if_neg ej, if_neg ej, e7 j ej]
        obtain ⟨x1, x2, x3, x4, x5, x6⟩ := m2 j (by omega)
        refine ⟨x1, x2, x3, x4, x5, fun w hw => ?_⟩
        rw [cp, if_neg ej, e23, e23, e23, e23]
        obtain ⟨y1, y2⟩ := x6 w hw
        exact ⟨y1, fun i hi => by rw [e10]; exact y2 i hi⟩
    · rw [sp] at hj
      by_cases ej : j = k
      · subst ej
        rw [e7k]
        exact ⟨Or.inr rfl, Or.inl rfl, by show (1 : Int32) ≤ 10; decide, by show (10 : Int32) ≤ 99; decide⟩
      · rw [e7 j ej]; exact m5 j (by omega)
    · rw [e23]; exact m6 j w (by rw [sp] at h1; omega) h2 hw
/-- a condition is added -/
theorem sCond_CV {n : Nat} {so a b : Int32} (h8 : n ≤ 8) (h : sCond n so a b = true) : sCV (rC so a b) n := by
  unfold sCond at h
  have k : ∀ {x : Int32} {q : Nat}, q < 2 ^ 31 → sIn x 0 (nI q) = true → ∃ i : Nat, i < q ∧ x = nI i := fun {x q} hq hx => by
    unfold sIn at hx
    rw [Bool.and_eq_true] at hx
    have h1 : ¬ x < 0 := by simpa using hx.1
    have h2 : ¬ nI q ≤ x := by simpa using hx.2
    obtain ⟨i, hi2, hi1⟩ := nI_of h1
    refine ⟨i, ?_, hi1⟩
    rw [hi1] at h2
    exact Nat.lt_of_not_le (fun z => h2 ((nI_leI (a := q) (b := i) hq hi2).mpr z))
  by_cases c1 : so = 100 ∨ so = 108
  · rw [if_pos c1, Bool.and_eq_true] at h
    obtain ⟨i, hi, e⟩ := k (q := 4) (by omega) h.1
    exact Or.inl ⟨c1, i, hi, e⟩
  · rw [if_neg c1] at h
    by_cases c2 : so = 101
    · exact Or.inr (Or.inl c2)
    · rw [if_neg c2] at h
      by_cases c3 : so = 99
      · rw [if_pos c3] at h
        obtain ⟨i, hi, e⟩ := k (by omega) h
        exact Or.inr (Or.inr (Or.inl ⟨c3, i, hi, e⟩))
      · rw [if_neg c3, Bool.and_eq_true] at h
        exact Or.inr (Or.inr (Or.inr (show so = 116 by simpa using h.1)))
theorem LV.addCond {h : xS} {I : xI} {jn : Nat} (hL : LV h I jn) {p j w : Nat} (hp : p < sNp h) (hj : j < sSz h p) (hw : w < 2) (hu : I [5, p] 3 = 0) (hm : sCn h p j w < 3) {so a b : Int32} (hc : sCond (sSz h p) so a b = true) (o t : Int32) : LV (hCo h p j w) (mAdd (up (up (iCo h I p j w so a b) [30] 0 o) [20] 23 t) p j w (sCn h p j w) so a b) jn := by
  obtain ⟨m, hm0⟩ : ∃ m, m = sCn h p j w := ⟨_, rfl⟩
  obtain ⟨I', hI⟩ : ∃ z, z = mAdd (up (up (iCo h I p j w so a b) [30] 0 o) [20] 23 t) p j w (sCn h p j w) so a b := ⟨_, rfl⟩
  rw [← hI]
  have h3 : p < 3 := by have := hL.1.1.1; omega
  obtain ⟨w1, w2, w3, w4⟩ := hL.1.1.2.2 p hp
  obtain ⟨⟨m1, m2⟩, m3, m4, m5, m6⟩ := hL.1.2.2.1 p hp
  have cq : ∀ q, q ≠ p → sCn (hCo h p j w) q = sCn h q := fun q hq => by funext i v; exact if_neg (fun z => hq z.1)
  have cp : ∀ i v, sCn (hCo h p j w) p i v = if i = j ∧ v = w then m + 1 else sCn h p i v := fun i v => by
    show (if p = p ∧ i = j ∧ v = w then sCn h p i v + 1 else sCn h p i v) = _
    by_cases e : i = j ∧ v = w
    · rw [if_pos ⟨rfl, e⟩, if_pos e, e.1, e.2, hm0]
    · rw [if_neg (fun z => e z.2), if_neg e]
  have ev : ∀ id, id ≠ [20] → id ≠ [30] → id ≠ [23, 4, p, j] → id ≠ [23, 5, p, j] → id ≠ [23, 6, p, j] → id ≠ [23, 7, p, j] → id ≠ [8, p, j, w] → id ≠ [10, p, j, w, m] → I' id = I id := fun id a0 a1 a2 a3 a4 a5 a6 a7 => by
    rw [hI, ← hm0]; unfold mAdd; rw [up_id a5, up_id a4, up_id a3, up_id a2, up_id a0, up_id a1]; unfold iCo; rw [← hm0, up_id a6, upR_id a7]
  have e5 : ∀ q, I' [5, q] = I [5, q] := fun q => ev _ (by simp) (by simp) (by simp) (by simp) (by simp) (by simp) (by simp) (by simp)
  have e7 : ∀ q i, I' [7, q, i] = I [7, q, i] := fun q i => ev _ (by simp) (by simp) (by simp) (by simp) (by simp) (by simp) (by simp) (by simp)
  have e22 : ∀ f q, I' [22, f, q] = I [22, f, q] := fun f q => ev _ (by simp) (by simp) (by simp) (by simp) (by simp) (by simp) (by simp) (by simp)
  have e8 : ∀ i v x, I' [8, p, i, v] x = if (i = j ∧ v = w) ∧ x = 1 then nI (m + 1) else I [8, p, i, v] x := fun i v x => by rw [hI, ← hm0]; simp [mAdd, iCo, up, upR, ← hm0]
  have e10 : ∀ i v k, I' [10, p, i, v, k] = if (i = j ∧ v = w) ∧ k = m then rC so a b else I [10, p, i, v, k] := fun i v k => by
    by_cases e : (i = j ∧ v = w) ∧ k = m
    · obtain ⟨⟨rfl, rfl⟩, rfl⟩ := e
      rw [if_pos ⟨⟨rfl, rfl⟩, rfl⟩, hI, ← hm0]; unfold mAdd; rw [up_id (by simp), up_id (by simp), up_id (by simp), up_id (by simp), up_id (by simp), up_id (by simp)]; unfold iCo; rw [← hm0, up_id (by simp), upR_at]
    · rw [if_neg e]
      exact ev _ (by simp) (by simp) (by simp) (by simp) (by simp) (by simp) (by simp) (fun z => e (by simp at z; exact ⟨⟨z.1, z.2.1⟩, z.2.2⟩))
  have e23n : ∀ f q i, ¬ (q = p ∧ i = j) → I' [23, f, q, i] = I [23, f, q, i] := fun f q i z => ev _ (by simp) (by simp) (fun y => z (by simp at y; exact y.2)) (fun y => z (by simp at y; exact y.2)) (fun y => z (by simp at y; exact y.2)) (fun y => z (by simp at y; exact y.2)) (by simp) (by simp)
  have e237 : ∀ v, I' [23, 7, p, j] v = if v = w then nI (m + 1) else I [23, 7, p, j] v := fun v => by rw [hI, ← hm0]; simp [mAdd, iCo, up, upR, ← hm0]
  have e234 : ∀ v, I' [23, 4, p, j] v = if v = 3 * w + m then so else I [23, 4, p, j] v := fun v => by rw [hI, ← hm0]; simp [mAdd, iCo, up, upR, ← hm0]
  have e235 : ∀ v, I' [23, 5, p, j] v = if v = 3 * w + m then a else I [23, 5, p, j] v := fun v => by rw [hI, ← hm0]; simp [mAdd, iCo, up, upR, ← hm0]
  have e236 : ∀ v, I' [23, 6, p, j] v = if v = 3 * w + m then b else I [23, 6, p, j] v := fun v => by rw [hI, ← hm0]; simp [mAdd, iCo, up, upR, ← hm0]
  have e248 : I' [24, 8] = I [24, 8] := ev _ (by simp) (by simp) (by simp) (by simp) (by simp) (by simp) (by simp) (by simp)
  have e9 : I' [24, 9] = I [24, 9] := ev _ (by simp) (by simp) (by simp) (by simp) (by simp) (by simp) (by simp) (by simp)
  have hm3 : m < 3 := by omega
  refine hL.plan (p := p) rfl (fun _ => rfl) (Nat.le_refl _) (fun q hq hn => ⟨rfl, cq q hn⟩) (fun q hq => Nat.le_refl _) (fun _ => hu) (fun id hi => ev id ?_ ?_ ?_ ?_ ?_ ?_ ?_ ?_) ?_ ?_ ?_ (hL.1.op (p := p) hL.1.1.1 (Or.inl rfl) hp ?_ ?_ (fun q hq hn => ⟨rfl, cq q hn, e5 q, fun i => e7 q i, fun i v => ev _ (by simp) (by simp) (by simp) (by simp) (by simp) (by simp) (by simp [hn]) (by simp), fun i v k => ev _ (by simp) (by simp) (by simp) (by simp) (by simp) (by simp) (by simp) (by simp [hn]), fun f _ => e22 f q, fun f i => e23n f q i (fun z => hn z.1), by rw [e248], by rw [e9]⟩) ?_ ?_)
  · rintro rfl; simp [lvQ] at hi
  · rintro rfl; simp [lvQ] at hi
  · rintro rfl; simp [lvQ] at hi
  · rintro rfl; simp [lvQ] at hi
  · rintro rfl; simp [lvQ] at hi
  · rintro rfl; simp [lvQ] at hi
  · rintro rfl; simp [lvQ] at hi
  · rintro rfl; simp [lvQ] at hi
  · rw [ev _ (by simp) (by simp) (by simp) (by simp) (by simp) (by simp) (by simp) (by simp)]
  · rw [hI]; simp [mAdd, iCo, up, upR]
  · rw [hI]; simp [mAdd, iCo, up, upR]
  · rw [ev _ (by simp) (by simp) (by simp) (by simp) (by simp) (by simp) (by simp) (by simp)]; exact hL.1.1.2.1
  · rw [hI]; simp [mAdd, iCo, up, upR]; exact hL.1.2.1
  · refine ⟨w1, by rw [e5]; exact w2, by rw [e5]; exact w3, fun i hi => ?_⟩
    obtain ⟨y1, y2, y3⟩ := w4 i hi
    refine ⟨by rw [e7]; exact y1, ?_, fun v hv => ?_⟩
    · rw [e7]
      rcases y2 with z | ⟨q, z1, z2, z3⟩
      · exact Or.inl z
      · exact Or.inr ⟨q, z1, z2, by rw [e7]; exact z3⟩
    · obtain ⟨x1, x2, x3⟩ := y3 v hv
      rw [cp, e8]
      by_cases e : i = j ∧ v = w
      · rw [if_pos ⟨e, rfl⟩, if_pos e]
        refine ⟨rfl, by omega, fun k hk => ?_⟩
        rw [e10]
        by_cases ek : k = m
        · rw [if_pos ⟨e, ek⟩]; exact sCond_CV w1 hc
        · rw [if_neg (fun z => ek z.2)]; exact x3 k (by rw [e.1, e.2, ← hm0]; omega)
      · rw [if_neg (fun z => e z.1), if_neg e]
        exact ⟨x1, x2, fun k hk => by rw [e10, if_neg (fun z => e z.1)]; exact x3 k hk⟩
  · refine ⟨⟨by rw [e248]; exact m1, fun i hi => ?_⟩, by rw [e9, e5]; exact m3, by rw [e5]; exact m4, fun i hi => by rw [e7]; exact m5 i hi, fun i v h1 h2 hv => by rw [e23n _ _ _ (fun z => by have := z.2; have : sSz h p ≤ i := h1; omega)]; exact m6 i v h1 h2 hv⟩
    obtain ⟨x1, x2, x3, x4, x5, x6⟩ := m2 i hi
    unfold mS
    rw [e22, e22, e22, e22, e7]
    refine ⟨x1, x2, x3, x4, x5, fun v hv => ?_⟩
    obtain ⟨y1, y2⟩ := x6 v hv
    rw [cp]
    by_cases ei : i = j
    · subst ei
      rw [e237]
      by_cases evw : v = w
      · subst evw
        rw [if_pos rfl, if_pos ⟨rfl, rfl⟩]
        refine ⟨rfl, fun k hk => ?_⟩
        rw [e234, e235, e236, e10]
        by_cases ek : k = m
        · subst ek
          rw [if_pos rfl, if_pos rfl, if_pos rfl, if_pos ⟨⟨rfl, rfl⟩, rfl⟩]
          exact ⟨rfl, rfl, rfl⟩
        · have hk9 : ¬ 3 * v + k = 3 * v + m := by omega
          rw [if_neg hk9, if_neg hk9, if_neg hk9, if_neg (fun z => ek z.2)]
          exact y2 k (by rw [← hm0]; omega)
      · rw [if_neg evw, if_neg (fun z => evw z.2)]
        refine ⟨y1, fun k hk => ?_⟩
        have hk3 : k < 3 := by have := ((w4 i hi).2.2 v hv).2.1; omega
        have hk9 : ¬ 3 * v + k = 3 * w + m := by omega
        rw [e234, e235, e236, e10, if_neg hk9, if_neg hk9, if_neg hk9, if_neg (fun z => evw z.1.2)]
        exact y2 k hk
    · rw [if_neg (fun z => ei z.1), e23n _ _ _ (fun z => ei z.2), e23n _ _ _ (fun z => ei z.2), e23n _ _ _ (fun z => ei z.2), e23n _ _ _ (fun z => ei z.2)]
      exact ⟨y1, fun k hk => by rw [e10, if_neg (fun z => ei z.1.1)]; exact y2 k hk⟩
theorem LV.flagR {h : xS} {I : xI} {jn : Nat} (hL : LV h I jn) {p j : Nat} (hp : p < sNp h) (hj : j < sSz h p) (hu : I [5, p] 3 = 0) (hk : I [7, p, j] 0 = 116) {v : Int32} (hv : sBo v) (o t : Int32) : LV h (up (up (up (up I [7, p, j] 4 v) [30] 0 o) [20] 23 t) [22, 2, p] j v) jn := by
  obtain ⟨I', hI⟩ : ∃ z, z = up (up (up (up I [7, p, j] 4 v) [30] 0 o) [20] 23 t) [22, 2, p] j v := ⟨_, rfl⟩
  rw [← hI]
  obtain ⟨w1, w2, w3, w4⟩ := hL.1.1.2.2 p hp
  obtain ⟨⟨m1, m2⟩, m3, m4, m5, m6⟩ := hL.1.2.2.1 p hp
  have ev : ∀ id, id ≠ [20] → id ≠ [30] → id ≠ [7, p, j] → id ≠ [22, 2, p] → I' id = I id := fun id a0 a1 a2 a3 => by rw [hI, up_id a3, up_id a0, up_id a1, up_id a2]
  have e5 : ∀ q, I' [5, q] = I [5, q] := fun q => ev _ (by simp) (by simp) (by simp) (by simp)
  have e8 : ∀ q i w, I' [8, q, i, w] = I [8, q, i, w] := fun q i w => ev _ (by simp) (by simp) (by simp) (by simp)
  have e10 : ∀ q i w k, I' [10, q, i, w, k] = I [10, q, i, w, k] := fun q i w k => ev _ (by simp) (by simp) (by simp) (by simp)
  have e23 : ∀ f q i, I' [23, f, q, i] = I [23, f, q, i] := fun f q i => ev _ (by simp) (by simp) (by simp) (by simp)
  have e24 : ∀ f, I' [24, f] = I [24, f] := fun f => ev _ (by simp) (by simp) (by simp) (by simp)
  have e7 : ∀ i x, I' [7, p, i] x = if i = j ∧ x = 4 then v else I [7, p, i] x := fun i x => by rw [hI]; simp [up]
  have e7n : ∀ i x, x ≠ 4 → I' [7, p, i] x = I [7, p, i] x := fun i x z => by rw [e7, if_neg (fun y => z y.2)]
  have e22n : ∀ f i, ¬ (f = 2 ∧ i = j) → I' [22, f, p] i = I [22, f, p] i := fun f i z => by
    by_cases y : f = 2
    · subst y; rw [hI, up_ne (fun q => z ⟨rfl, q⟩), up_id (by simp), up_id (by simp), up_id (by simp)]
    · rw [ev _ (by simp) (by simp) (by simp) (by simp [y])]
  have e22y : I' [22, 2, p] j = v := by rw [hI]; exact up_at
  have e7y : I' [7, p, j] 4 = v := by rw [e7, if_pos ⟨rfl, rfl⟩]
  have e7i : ∀ i x, ¬ (i = j ∧ x = 4) → I' [7, p, i] x = I [7, p, i] x := fun i x z => by rw [e7, if_neg z]
  refine hL.plan (p := p) rfl (fun _ => rfl) (Nat.le_refl _) (fun q hq hn => ⟨rfl, rfl⟩) (fun q hq => Nat.le_refl _) (fun _ => hu) (fun id hi => ev id ?_ ?_ ?_ ?_) ?_ ?_ ?_ (hL.1.op (p := p) hL.1.1.1 (Or.inl rfl) hp ?_ ?_ (fun q hq hn => ⟨rfl, rfl, e5 q, fun i => ev _ (by simp) (by simp) (by simp [hn]) (by simp), fun i w => e8 q i w, fun i w k => e10 q i w k, fun f _ => ev _ (by simp) (by simp) (by simp) (by simp [hn]), fun f i => e23 f q i, by rw [e24], by rw [e24]⟩) ?_ ?_)
  · rintro rfl; simp [lvQ] at hi
  · rintro rfl; simp [lvQ] at hi
  · rintro rfl; simp [lvQ] at hi
  · rintro rfl; simp [lvQ] at hi
  · rw [ev _ (by simp) (by simp) (by simp) (by simp)]
  · rw [hI]; simp [up]
  · rw [hI]; simp [up]
  · rw [ev _ (by simp) (by simp) (by simp) (by simp)]; exact hL.1.1.2.1
  · rw [hI]; simp [up]; exact hL.1.2.1
  · refine ⟨w1, by rw [e5]; exact w2, by rw [e5]; exact w3, fun i hi => ?_⟩
    obtain ⟨y1, y2, y3⟩ := w4 i hi
    refine ⟨by rw [e7n _ _ (by decide)]; exact y1, ?_, fun w hw => ?_⟩
    · rw [e7n _ _ (by decide)]
      rcases y2 with z | ⟨q, z1, z2, z3⟩
      · exact Or.inl z
      · exact Or.inr ⟨q, z1, z2, by rw [e7n _ _ (by decide)]; exact z3⟩
    · rw [e8]
      obtain ⟨x1, x2, x3⟩ := y3 w hw
      exact ⟨x1, x2, fun k hk => by rw [e10]; exact x3 k hk⟩
  · refine ⟨⟨by rw [e24]; exact m1, fun i hi => ?_⟩, by rw [e24, e5]; exact m3, by rw [e5]; exact m4, fun i hi => ?_, fun i w h1 h2 hw => by rw [e23]; exact m6 i w h1 h2 hw⟩
    · obtain ⟨x1, x2, x3, x4, x5, x6⟩ := m2 i hi
      refine ⟨by rw [e22n _ _ (by omega), e7i _ _ (by omega)]; exact x1, by rw [e22n _ _ (by omega), e7i _ _ (by omega)]; exact x2, fun z => by
        rw [e7i i 0 (by omega)] at z
        by_cases ei : i = j
        · subst ei; rw [e22y, e7y]
        · rw [e22n _ _ (by omega), e7i _ _ (by omega)]; exact x3 z, fun z => by
        rw [e7i i 0 (by omega)] at z
        by_cases ei : i = j
        · subst ei; exact absurd (hk.symm.trans z) (by decide)
        · rw [e22n _ _ (by omega), e7i _ _ (by omega)]; exact x4 z, by rw [e22n _ _ (by omega), e7i _ _ (by omega)]; exact x5, fun w hw => ?_⟩
      obtain ⟨y1, y2⟩ := x6 w hw
      exact ⟨by rw [e23]; exact y1, fun k hk => by rw [e23, e23, e23, e10]; exact y2 k hk⟩
    · obtain ⟨z1, z2, z3, z4⟩ := m5 i hi
      by_cases ei : i = j
      · subst ei
        exact ⟨by rw [e7y]; exact hv, by rw [e7i _ _ (by omega)]; exact z2, by rw [e7i _ _ (by omega)]; exact z3, by rw [e7i _ _ (by omega)]; exact z4⟩
      · exact ⟨by rw [e7i _ _ (by omega)]; exact z1, by rw [e7i _ _ (by omega)]; exact z2, by rw [e7i _ _ (by omega)]; exact z3, by rw [e7i _ _ (by omega)]; exact z4⟩
theorem LV.flagA {h : xS} {I : xI} {jn : Nat} (hL : LV h I jn) {p j : Nat} (hp : p < sNp h) (hj : j < sSz h p) (hu : I [5, p] 3 = 0) (hk : I [7, p, j] 0 = 109) {v : Int32} (hv : sBo v) (o t : Int32) : LV h (up (up (up (up I [7, p, j] 6 v) [30] 0 o) [20] 23 t) [22, 2, p] j v) jn := by
  obtain ⟨I', hI⟩ : ∃ z, z = up (up (up (up I [7, p, j] 6 v) [30] 0 o) [20] 23 t) [22, 2, p] j v := ⟨_, rfl⟩
  rw [← hI]
  obtain ⟨w1, w2, w3, w4⟩ := hL.1.1.2.2 p hp
  obtain ⟨⟨m1, m2⟩, m3, m4, m5, m6⟩ := hL.1.2.2.1 p hp
  have ev : ∀ id, id ≠ [20] → id ≠ [30] → id ≠ [7, p, j] → id ≠ [22, 2, p] → I' id = I id := fun id a0 a1 a2 a3 => by rw [hI, up_id a3, up_id a0, up_id a1, up_id a2]
  have e5 : ∀ q, I' [5, q] = I [5, q] := fun q => ev _ (by simp) (by simp) (by simp) (by simp)
  have e8 : ∀ q i w, I' [8, q, i, w] = I [8, q, i, w] := fun q i w => ev _ (by simp) (by simp) (by simp) (by simp)
  have e10 : ∀ q i w k, I' [10, q, i, w, k] = I [10, q, i, w, k] := fun q i w k => ev _ (by simp) (by simp) (by simp) (by simp)
  have e23 : ∀ f q i, I' [23, f, q, i] = I [23, f, q, i] := fun f q i => ev _ (by simp) (by simp) (by simp) (by simp)
  have e24 : ∀ f, I' [24, f] = I [24, f] := fun f => ev _ (by simp) (by simp) (by simp) (by simp)
  have e7 : ∀ i x, I' [7, p, i] x = if i = j ∧ x = 6 then v else I [7, p, i] x := fun i x => by rw [hI]; simp [up]
  have e7n : ∀ i x, x ≠ 6 → I' [7, p, i] x = I [7, p, i] x := fun i x z => by rw [e7, if_neg (fun y => z y.2)]
  have e22n : ∀ f i, ¬ (f = 2 ∧ i = j) → I' [22, f, p] i = I [22, f, p] i := fun f i z => by
    by_cases y : f = 2
    · subst y; rw [hI, up_ne (fun q => z ⟨rfl, q⟩), up_id (by simp), up_id (by simp), up_id (by simp)]
    · rw [ev _ (by simp) (by simp) (by simp) (by simp [y])]
  have e22y : I' [22, 2, p] j = v := by rw [hI]; exact up_at
  have e7y : I' [7, p, j] 6 = v := by rw [e7, if_pos ⟨rfl, rfl⟩]
  have e7i : ∀ i x, ¬ (i = j ∧ x = 6) → I' [7, p, i] x = I [7, p, i] x := fun i x z => by rw [e7, if_neg z]
  refine hL.plan (p := p) rfl (fun _ => rfl) (Nat.le_refl _) (fun q hq hn => ⟨rfl, rfl⟩) (fun q hq => Nat.le_refl _) (fun _ => hu) (fun id hi => ev id ?_ ?_ ?_ ?_) ?_ ?_ ?_ (hL.1.op (p := p) hL.1.1.1 (Or.inl rfl) hp ?_ ?_ (fun q hq hn => ⟨rfl, rfl, e5 q, fun i => ev _ (by simp) (by simp) (by simp [hn]) (by simp), fun i w => e8 q i w, fun i w k => e10 q i w k, fun f _ => ev _ (by simp) (by simp) (by simp) (by simp [hn]), fun f i => e23 f q i, by rw [e24], by rw [e24]⟩) ?_ ?_)
  · rintro rfl; simp [lvQ] at hi
  · rintro rfl; simp [lvQ] at hi
  · rintro rfl; simp [lvQ] at hi
  · rintro rfl; simp [lvQ] at hi
  · rw [ev _ (by simp) (by simp) (by simp) (by simp)]
  · rw [hI]; simp [up]
  · rw [hI]; simp [up]
  · rw [ev _ (by simp) (by simp) (by simp) (by simp)]; exact hL.1.1.2.1
  · rw [hI]; simp [up]; exact hL.1.2.1
  · refine ⟨w1, by rw [e5]; exact w2, by rw [e5]; exact w3, fun i hi => ?_⟩
    obtain ⟨y1, y2, y3⟩ := w4 i hi
    refine ⟨by rw [e7n _ _ (by decide)]; exact y1, ?_, fun w hw => ?_⟩
    · rw [e7n _ _ (by decide)]
      rcases y2 with z | ⟨q, z1, z2, z3⟩
      · exact Or.inl z
      · exact Or.inr ⟨q, z1, z2, by rw [e7n _ _ (by decide)]; exact z3⟩
    · rw [e8]
      obtain ⟨x1, x2, x3⟩ := y3 w hw
      exact ⟨x1, x2, fun k hk => by rw [e10]; exact x3 k hk⟩
  · refine ⟨⟨by rw [e24]; exact m1, fun i hi => ?_⟩, by rw [e24, e5]; exact m3, by rw [e5]; exact m4, fun i hi => ?_, fun i w h1 h2 hw => by rw [e23]; exact m6 i w h1 h2 hw⟩
    · obtain ⟨x1, x2, x3, x4, x5, x6⟩ := m2 i hi
      refine ⟨by rw [e22n _ _ (by omega), e7i _ _ (by omega)]; exact x1, by rw [e22n _ _ (by omega), e7i _ _ (by omega)]; exact x2, fun z => by
        rw [e7i i 0 (by omega)] at z
        by_cases ei : i = j
        · subst ei; exact absurd (hk.symm.trans z) (by decide)
        · rw [e22n _ _ (by omega), e7i _ _ (by omega)]; exact x3 z, fun z => by
        rw [e7i i 0 (by omega)] at z
        by_cases ei : i = j
        · subst ei; rw [e22y, e7y]
        · rw [e22n _ _ (by omega), e7i _ _ (by omega)]; exact x4 z, by rw [e22n _ _ (by omega), e7i _ _ (by omega)]; exact x5, fun w hw => ?_⟩
      obtain ⟨y1, y2⟩ := x6 w hw
      exact ⟨by rw [e23]; exact y1, fun k hk => by rw [e23, e23, e23, e10]; exact y2 k hk⟩
    · obtain ⟨z1, z2, z3, z4⟩ := m5 i hi
      by_cases ei : i = j
      · subst ei
        exact ⟨by rw [e7i _ _ (by omega)]; exact z1, by rw [e7y]; exact hv, by rw [e7i _ _ (by omega)]; exact z3, by rw [e7i _ _ (by omega)]; exact z4⟩
      · exact ⟨by rw [e7i _ _ (by omega)]; exact z1, by rw [e7i _ _ (by omega)]; exact z2, by rw [e7i _ _ (by omega)]; exact z3, by rw [e7i _ _ (by omega)]; exact z4⟩
theorem LV.flagL {h : xS} {I : xI} {jn : Nat} (hL : LV h I jn) {p j : Nat} (hp : p < sNp h) (hj : j < sSz h p) (hu : I [5, p] 3 = 0) {v : Int32} (hv1 : 1 ≤ v) (hv2 : v ≤ 99) (o t : Int32) : LV h (up (up (up (up I [7, p, j] 5 v) [30] 0 o) [20] 23 t) [22, 3, p] j v) jn := by
  obtain ⟨I', hI⟩ : ∃ z, z = up (up (up (up I [7, p, j] 5 v) [30] 0 o) [20] 23 t) [22, 3, p] j v := ⟨_, rfl⟩
  rw [← hI]
  obtain ⟨w1, w2, w3, w4⟩ := hL.1.1.2.2 p hp
  obtain ⟨⟨m1, m2⟩, m3, m4, m5, m6⟩ := hL.1.2.2.1 p hp
  have ev : ∀ id, id ≠ [20] → id ≠ [30] → id ≠ [7, p, j] → id ≠ [22, 3, p] → I' id = I id := fun id a0 a1 a2 a3 => by rw [hI, up_id a3, up_id a0, up_id a1, up_id a2]
  have e5 : ∀ q, I' [5, q] = I [5, q] := fun q => ev _ (by simp) (by simp) (by simp) (by simp)
  have e8 : ∀ q i w, I' [8, q, i, w] = I [8, q, i, w] := fun q i w => ev _ (by simp) (by simp) (by simp) (by simp)
  have e10 : ∀ q i w k, I' [10, q, i, w, k] = I [10, q, i, w, k] := fun q i w k => ev _ (by simp) (by simp) (by simp) (by simp)
  have e23 : ∀ f q i, I' [23, f, q, i] = I [23, f, q, i] := fun f q i => ev _ (by simp) (by simp) (by simp) (by simp)
  have e24 : ∀ f, I' [24, f] = I [24, f] := fun f => ev _ (by simp) (by simp) (by simp) (by simp)
  have e7 : ∀ i x, I' [7, p, i] x = if i = j ∧ x = 5 then v else I [7, p, i] x := fun i x => by rw [hI]; simp [up]
  have e7n : ∀ i x, x ≠ 5 → I' [7, p, i] x = I [7, p, i] x := fun i x z => by rw [e7, if_neg (fun y => z y.2)]
  have e22n : ∀ f i, ¬ (f = 3 ∧ i = j) → I' [22, f, p] i = I [22, f, p] i := fun f i z => by
    by_cases y : f = 3
    · subst y; rw [hI, up_ne (fun q => z ⟨rfl, q⟩), up_id (by simp), up_id (by simp), up_id (by simp)]
    · rw [ev _ (by simp) (by simp) (by simp) (by simp [y])]
  have e22y : I' [22, 3, p] j = v := by rw [hI]; exact up_at
  have e7y : I' [7, p, j] 5 = v := by rw [e7, if_pos ⟨rfl, rfl⟩]
  have e7i : ∀ i x, ¬ (i = j ∧ x = 5) → I' [7, p, i] x = I [7, p, i] x := fun i x z => by rw [e7, if_neg z]
  refine hL.plan (p := p) rfl (fun _ => rfl) (Nat.le_refl _) (fun q hq hn => ⟨rfl, rfl⟩) (fun q hq => Nat.le_refl _) (fun _ => hu) (fun id hi => ev id ?_ ?_ ?_ ?_) ?_ ?_ ?_ (hL.1.op (p := p) hL.1.1.1 (Or.inl rfl) hp ?_ ?_ (fun q hq hn => ⟨rfl, rfl, e5 q, fun i => ev _ (by simp) (by simp) (by simp [hn]) (by simp), fun i w => e8 q i w, fun i w k => e10 q i w k, fun f _ => ev _ (by simp) (by simp) (by simp) (by simp [hn]), fun f i => e23 f q i, by rw [e24], by rw [e24]⟩) ?_ ?_)
  · rintro rfl; simp [lvQ] at hi
  · rintro rfl; simp [lvQ] at hi
  · rintro rfl; simp [lvQ] at hi
  · rintro rfl; simp [lvQ] at hi
  · rw [ev _ (by simp) (by simp) (by simp) (by simp)]
  · rw [hI]; simp [up]
  · rw [hI]; simp [up]
  · rw [ev _ (by simp) (by simp) (by simp) (by simp)]; exact hL.1.1.2.1
  · rw [hI]; simp [up]; exact hL.1.2.1
  · refine ⟨w1, by rw [e5]; exact w2, by rw [e5]; exact w3, fun i hi => ?_⟩
    obtain ⟨y1, y2, y3⟩ := w4 i hi
    refine ⟨by rw [e7n _ _ (by decide)]; exact y1, ?_, fun w hw => ?_⟩
    · rw [e7n _ _ (by decide)]
      rcases y2 with z | ⟨q, z1, z2, z3⟩
      · exact Or.inl z
      · exact Or.inr ⟨q, z1, z2, by rw [e7n _ _ (by decide)]; exact z3⟩
    · rw [e8]
      obtain ⟨x1, x2, x3⟩ := y3 w hw
      exact ⟨x1, x2, fun k hk => by rw [e10]; exact x3 k hk⟩
  · refine ⟨⟨by rw [e24]; exact m1, fun i hi => ?_⟩, by rw [e24, e5]; exact m3, by rw [e5]; exact m4, fun i hi => ?_, fun i w h1 h2 hw => by rw [e23]; exact m6 i w h1 h2 hw⟩
    · obtain ⟨x1, x2, x3, x4, x5, x6⟩ := m2 i hi
      refine ⟨by rw [e22n _ _ (by omega), e7i _ _ (by omega)]; exact x1, by rw [e22n _ _ (by omega), e7i _ _ (by omega)]; exact x2, fun z => by
        rw [e7i i 0 (by omega)] at z
        rw [e22n _ _ (by omega), e7i _ _ (by omega)]; exact x3 z, fun z => by
        rw [e7i i 0 (by omega)] at z
        rw [e22n _ _ (by omega), e7i _ _ (by omega)]; exact x4 z, by
        by_cases ei : i = j
        · subst ei; rw [e22y, e7y]
        · rw [e22n _ _ (by omega), e7i _ _ (by omega)]; exact x5, fun w hw => ?_⟩
      obtain ⟨y1, y2⟩ := x6 w hw
      exact ⟨by rw [e23]; exact y1, fun k hk => by rw [e23, e23, e23, e10]; exact y2 k hk⟩
    · obtain ⟨z1, z2, z3, z4⟩ := m5 i hi
      by_cases ei : i = j
      · subst ei
        exact ⟨by rw [e7i _ _ (by omega)]; exact z1, by rw [e7i _ _ (by omega)]; exact z2, by rw [e7y]; exact hv1, by rw [e7y]; exact hv2⟩
      · exact ⟨by rw [e7i _ _ (by omega)]; exact z1, by rw [e7i _ _ (by omega)]; exact z2, by rw [e7i _ _ (by omega)]; exact z3, by rw [e7i _ _ (by omega)]; exact z4⟩
