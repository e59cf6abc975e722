/-! OUTCOMES: the done share -/
theorem sShr_d0 : ∀ n, n < 9 → ∀ a, a < 9 → 0 < n → vf_n64 (FP.f2d (sShr a n)) := by
  show ∀ n, n < 9 → ∀ a, a < 9 → 0 < n → FP.f2d (sShr a n) &&& 0x7fffffffffffffff ≤ 0x7ff0000000000000
  decide +kernel
theorem sShr_d1 : ∀ n, n < 9 → ∀ a, a < 9 → 0 < n → FP.dcmp (FP.f2d (sShr a n)) (FP.f2d (sShr a n)) = some .eq := by decide +kernel
/-- the done share by the law's own method and by the model -/
def lwD (l : Launch) (g0 : xG) (a : List Nat → Nat) (h : xS) (I : xI) (n jn : Nat) (x : Int32) : Prop :=
  (∃ (k : Int32) (b : UInt32) (fr lo fr' lo' : Nat), k ≠ 0 ∧ (fr ≤ 60 ∧ lo ≤ 4000 ∧ fr' ≤ 60 ∧ lo' ≤ 4000) ∧ xMl l yL_doneShare cL_doneShare 4 (some .int) [(0, 9, 12, 19)] fr lo (setG g0 a) [.ref (a [0]), .int x, .ref (a [31])] (xR (setG g0 a) (xD h) I (xFh h) n) (some (.int k)) (xG_ (setG g0 a) (xD h) I (xFh h) n) 1 6 ∧
    ∀ n', xM l yX7_doneShare (xws yX7_doneShare cX7_doneShare 2 (some FieldType.float)) fr' lo' (setG g0 a) [.ref (a [20]), .int x] (xR (setG g0 a) (xD h) I (xFh h) n') (some (.float b)) (xR (setG g0 a) (xD h) (up I [20] 23 k) (xFh h) n') 0 0) ∨
  ∃ (v : Int32) (fr lo fr' lo' : Nat), (fr ≤ 60 ∧ lo ≤ 4000 ∧ fr' ≤ 60 ∧ lo' ≤ 4000) ∧ vf_n64 (FP.f2d v.toUInt32) ∧ FP.dcmp (FP.f2d v.toUInt32) (FP.f2d v.toUInt32) = some .eq ∧
    xMl l yL_doneShare cL_doneShare 4 (some .int) [(0, 9, 12, 19)] fr lo (setG g0 a) [.ref (a [0]), .int x, .ref (a [31])] (xR (setG g0 a) (xD h) I (xFh h) n) (some (.int 0)) (xR (setG g0 a) (xD h) (up I [31] 0 v) (xFh h) n) 0 0 ∧
    xM l yX7_doneShare (xws yX7_doneShare cX7_doneShare 2 (some FieldType.float)) fr' lo' (setG g0 a) [.ref (a [20]), .int x] (xR (setG g0 a) (xD h) (up I [31] 0 v) (xFh h) n) (some (.float v.toUInt32)) (xR (setG g0 a) (xD h) (up (up I [31] 0 v) [20] 23 0) (xFh h) n) 0 0 ∧ LW h (up (up I [31] 0 v) [20] 23 0) jn
set_option maxHeartbeats 1000000 in
theorem o_doneShare {l : Launch} (hst : l.stackTraces = false) {g0 : xG} {a : List Nat → Nat} {h : xS} {I : xI} {n jn : Nat} (hL : LW h I jn) (x : Int32) : lwD l g0 a h I n jn x := by
  have hW := hL.1.1.1
  have hC := hL.1.2.1.1
  have h3 := hW.1
  have n4 := hC.1
  have hm := hL.1.2.1.2.1
  have hz := hL.1.1.2.1
  rcases sIn_cases (x := x) (q := sNc h) (by omega) with ⟨z1, z2⟩ | ⟨c, hc, rfl⟩
  · exact Or.inl ⟨1, 0, _, _, _, _, by decide, ⟨by omega, by omega, by omega, by omega⟩, w_doneShare_eIO l (setG g0 a) (xD h) I (xFh h) n _ _ x trivial (t_X6_doneShare_c l hst (setG g0 a) h I n hC x z2), fun n' => c_X7_doneShare_c l (setG g0 a) h I n' (sNc h) n4 hm x z1⟩
  · obtain ⟨u, v1, v2, v3, v4, v5⟩ := hL.1.2.1.2.2.2.1 c hc
    have hp := (hC.2.2 c hc).1
    have h8 := (hW.2.2 _ hp).1
    obtain ⟨v, hv⟩ : ∃ z : Int32, z.toUInt32 = sShr (sCnt (gX I c) 99 (sSz h (sPl h c))) (sSz h (sPl h c)) := ⟨(sShr (sCnt (gX I c) 99 (sSz h (sPl h c))) (sSz h (sPl h c))).toInt32, rfl⟩
    have hnn : vf_n64 (FP.f2d v.toUInt32) := by
      rw [hv]
      have := sCnt_le (gX I c) 99 (sSz h (sPl h c))
      exact sShr_d0 _ (by omega) _ (by omega) v4
    have hdc : FP.dcmp (FP.f2d v.toUInt32) (FP.f2d v.toUInt32) = some .eq := by
      rw [hv]
      have := sCnt_le (gX I c) 99 (sSz h (sPl h c))
      exact sShr_d1 _ (by omega) _ (by omega) v4
    have W6 := c_X6_doneShare l (setG g0 a) h I n hW hC c hc v4
    rw [← hv] at W6
    have e5 : ∀ p, up I [31] 0 v [5, p] = I [5, p] := fun p => up_id (by simp)
    have eP : ∀ id, pL id = true → up I [31] 0 v id = I id := fun id hi => up_id (by rintro rfl; cases hi)
    have m6 := hL.1.view hc (J := up I [31] 0 v) (fun id hi => up_id (by rintro rfl; cases hi))
    have k := c_X7_doneShare l (setG g0 a) h (up I [31] 0 v) n c (gX I c) (sNc h) n4 (by rw [up_id (by simp)]; exact hm) hc (sPl h c) (by omega) (by rw [up_id (by simp)]; exact v2) ((hL.1.1.2.2.1 _ hp).1.sameL eP) ((hW.2.2 _ hp).sameL eP) v4
    rw [← mW_u20 _ _ _ _ (by decide), m6, ← hv] at k
    exact Or.inr ⟨v, _, _, _, _, ⟨by omega, by omega, by omega, by omega⟩, hnn, hdc, w_doneShare l (setG g0 a) (xD h) (xD h) I I (xFh h) (xFh h) n n _ _ 0 0 (nI c) v hnn trivial trivial W6, k, LW.thr (hL.same (fun id hi => up_id (by rintro rfl; cases hi)) (by rw [up_id (by simp)]) (by rw [up_id (by simp)]) (by rw [up_id (by simp)]) (by
      have : gX (up I [31] 0 v) 4 = gX I 4 := funext fun f => up_id (by simp)
      rw [this]; exact hL.1.2.2.2.2)) 0⟩
