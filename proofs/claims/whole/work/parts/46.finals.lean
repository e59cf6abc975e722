/-! WHAT THE CALLS LEAVE BEHIND, AND THAT BOTH ANSWER ALIKE -/
theorem pL0_mIs {id : List Nat} (h : pL0 id = true) : mIs id = false := by
  unfold mIs
  split <;> first | rfl | (exfalso; revert h; simp [pL0]; done)
theorem mW_r1n (I : xI) {c d : Nat} (X : xX) (h : d ≠ c) : mW I c X [22, 12, d] = I [22, 12, d] := by funext k; simp [mW, h]
theorem mW_r2n (I : xI) {c d : Nat} (X : xX) (h : d ≠ c) : mW I c X [22, 14, d] = I [22, 14, d] := by funext k; simp [mW, h]
theorem mW_r4n (I : xI) {c d : Nat} (X : xX) (h : d ≠ c) : mW I c X [22, 15, d] = I [22, 15, d] := by funext k; simp [mW, h]
theorem mW_r5n (I : xI) {c d : Nat} (X : xX) (h : d ≠ c) : mW I c X [22, 16, d] = I [22, 16, d] := by funext k; simp [mW, h]
theorem mW_c6n (I : xI) {c d : Nat} (X : xX) (h : d ≠ c) : mW I c X [24, 17] d = I [24, 17] d := by simp [mW, h]
theorem mW_c7n (I : xI) {c d : Nat} (X : xX) (h : d ≠ c) : mW I c X [24, 13] d = I [24, 13] d := by simp [mW, h]
theorem mW_c9n (I : xI) {c d : Nat} (X : xX) (h : d ≠ c) : mW I c X [24, 18] d = I [24, 18] d := by simp [mW, h]
theorem mW_c10n (I : xI) {c d : Nat} (X : xX) (h : d ≠ c) : mW I c X [24, 19] d = I [24, 19] d := by simp [mW, h]
theorem sJ_n (I : xI) (jn : Nat) (a b x y : Int32) {id : List Nat} (h3 : id ≠ [3]) (h4 : ∀ k, id ≠ [4, k]) : sJ I jn a b x y id = I id := by
  unfold sJ
  rw [up_id h3, up_id (h4 3), up_id (h4 2), up_id (h4 1), up_id (h4 0)]
theorem sJ_3 (I : xI) (jn : Nat) (a b x y : Int32) : sJ I jn a b x y [3] 4 = nI (jn + 1) := up_at
theorem sJ_4 (I : xI) (jn : Nat) (a b x y : Int32) (r : Nat) : sJ I jn a b x y [4, 0] r = (if r = jn then a else I [4, 0] r) ∧ sJ I jn a b x y [4, 1] r = (if r = jn then b else I [4, 1] r) ∧ sJ I jn a b x y [4, 2] r = (if r = jn then x else I [4, 2] r) ∧ sJ I jn a b x y [4, 3] r = (if r = jn then y else I [4, 3] r) := by
  unfold sJ up
  simp
theorem LV.case {h h' : xS} {I I0 B I' : xI} {jn c w : Nat} {x y : Int32} {X X' : xX} (hL : LV h I jn) (hj : jn < 512) (hc : c < sNc h) (hw : 1 ≤ w ∧ w ≤ 6) (hX : ∃ r, X = rq3 (gX I c) r) (hX' : X' = (sHap h I w x y (sPl h c, X)).2) (hv : sVal h w x (sPl h c))
    (h0 : ∀ id, (∀ q, id ≠ [5, q]) → I0 id = I id) (hB : ∀ id, id ≠ [20] → id ≠ [24, 22] → id ≠ [30] → id ≠ [24, 9] → id ≠ [24, 11] → B id = sX (sJ I0 jn (nI c) (nI w) x y) c X' id) (hI : I' = mW B c X')
    (hNp : sNp h' = sNp h) (hNc : sNc h' = sNc h) (hSz : sSz h' = sSz h) (hCn : sCn h' = sCn h) (hPc : sPl h' c = (sHap h I w x y (sPl h c, X)).1) (hPd : ∀ d, d ≠ c → sPl h' d = sPl h d)
    (e50 : ∀ p k, k ≠ 3 → I0 [5, p] k = I [5, p] k) (e53 : ∀ p, p < sNp h → B [24, 9] p = I0 [5, p] 3 ∧ sBo (I0 [5, p] 3)) (e5u : ∀ p, ¬ I [5, p] 3 = 0 → ¬ I0 [5, p] 3 = 0) (e9 : ∀ p, sNp h ≤ p → B [24, 9] p = I [24, 9] p)
    (hnew : 0 < sSz h (sPl h' c) ∧ sPl h' c < sNp h ∧ ¬ I0 [5, sPl h' c] 3 = 0) (hx6 : w = 6 → ∃ q, q < sNp h ∧ x = nI q ∧ ¬ I0 [5, q] 3 = 0)
    (b10 : B [20] 10 = I [20] 10) (b20 : B [20] 20 = I [20] 20) (b11 : B [24, 11] c = nI (sPl h' c)) (b11d : ∀ d, d ≠ c → B [24, 11] d = I [24, 11] d) : LV h' I' (jn + 1) := by
  subst hI
  have n4 := hL.2.1.1.1
  have hp5 : ∀ q, mW B c X' [5, q] = I0 [5, q] := fun q => by
    rw [mW_no _ _ _ rfl, hB _ (by simp) (by simp) (by simp) (by simp) (by simp)]
    rcases sX_cases (sJ I0 jn (nI c) (nI w) x y) c X' [5, q] with ⟨f, e, -⟩ | ⟨-, e⟩
    · simp at e
    · rw [e, sJ_n _ _ _ _ _ _ (by simp) (by simp)]
  have hot : ∀ id, mIs id = false → id ≠ [20] → id ≠ [24, 22] → id ≠ [30] → id ≠ [24, 9] → id ≠ [24, 11] → (∀ q, id ≠ [5, q]) → (∀ f, id ≠ [11, c, f]) → id ≠ [3] → (∀ k, id ≠ [4, k]) → mW B c X' id = I id := fun id a0 a1 a2 a3 a4 a5 a6 a7 a8 a9 => by
    rw [mW_no _ _ _ a0, hB id a1 a2 a3 a4 a5]
    rcases sX_cases (sJ I0 jn (nI c) (nI w) x y) c X' id with ⟨f, e, -⟩ | ⟨-, e⟩
    · exact absurd e (a7 f)
    · rw [e, sJ_n _ _ _ _ _ _ a8 a9, h0 _ a6]
  have hrow : ∀ id, id ≠ [20] → id ≠ [24, 22] → id ≠ [30] → id ≠ [24, 9] → id ≠ [24, 11] → (∀ q, id ≠ [5, q]) → (∀ f, id ≠ [11, c, f]) → id ≠ [3] → (∀ k, id ≠ [4, k]) → B id = I id := fun id a1 a2 a3 a4 a5 a6 a7 a8 a9 => by
    rw [hB id a1 a2 a3 a4 a5]
    rcases sX_cases (sJ I0 jn (nI c) (nI w) x y) c X' id with ⟨f, e, -⟩ | ⟨-, e⟩
    · exact absurd e (a7 f)
    · rw [e, sJ_n _ _ _ _ _ _ a8 a9, h0 _ a6]
  have h4 : ∀ k, mW B c X' [4, k] = sJ I0 jn (nI c) (nI w) x y [4, k] := fun k => by
    rw [mW_no _ _ _ rfl, hB _ (by simp) (by simp) (by simp) (by simp) (by simp)]
    rcases sX_cases (sJ I0 jn (nI c) (nI w) x y) c X' [4, k] with ⟨f, e, -⟩ | ⟨-, e⟩
    · simp at e
    · rw [e]
  have i4 : ∀ k, I0 [4, k] = I [4, k] := fun k => h0 _ (by simp)
  have gx : gX (mW B c X') c = X' := by
    funext f
    show mW B c X' [11, c, f] = X' f
    rw [mW_no _ _ _ rfl, hB _ (by simp) (by simp) (by simp) (by simp) (by simp), sX_at]
  have gxd : ∀ d, d ≠ c → gX (mW B c X') d = gX I d := fun d hd => by
    funext f
    show mW B c X' [11, d, f] = I [11, d, f]
    rw [mW_no _ _ _ rfl, hB _ (by simp) (by simp) (by simp) (by simp) (by simp), sX_ne _ _ _ hd, sJ_n _ _ _ _ _ _ (by simp) (by simp), h0 _ (by simp)]
  have R := fun f d => hrow [22, f, d] (by simp) (by simp) (by simp) (by simp) (by simp) (by simp) (by simp) (by simp) (by simp)
  have S := fun f (h1 : f ≠ 22) (h2 : f ≠ 9) (h3 : f ≠ 11) => hrow [24, f] (by simp) (by simp [h1]) (by simp) (by simp [h2]) (by simp [h3]) (by simp) (by simp) (by simp) (by simp)
  refine hL.hap hj hc hw hX hX' hv hNp hNc hSz hCn hPc hPd (fun id hi => ?_) (fun p k hk => by rw [hp5]; exact e50 p k hk) (fun p hp => by rw [hp5, mW_no _ _ _ rfl]; exact e53 p hp) (fun p hp => by rw [hp5]; exact e5u p hp) (fun p hp => by rw [mW_no _ _ _ rfl]; exact e9 p hp) (by rw [hp5]; exact hnew) (fun z => by obtain ⟨q, q1, q2, q3⟩ := hx6 z; exact ⟨q, q1, q2, by rw [hp5]; exact q3⟩)
    ?_ ?_ (by rw [mW_20 _ _ _ (by decide)]; exact b10) (by rw [mW_20 _ _ _ (by decide)]; exact b20) (by rw [mW_c8, hX']; exact sHap_8 _ _ _ _ _ _) ?_ (fun r hr => ?_) ?_ gx gxd ⟨by rw [mW_r1, gx], by rw [mW_r2, gx], by rw [mW_r4, gx], by rw [mW_r5, gx], by rw [mW_c6, gx], by rw [mW_c7, gx], by rw [mW_c9, gx], by rw [mW_c10, gx]⟩ (by rw [mW_no _ _ _ rfl]; exact b11) (fun d hd => ⟨by rw [mW_r1n _ _ hd, R], by rw [mW_r2n _ _ hd, R], by rw [mW_r4n _ _ hd, R], by rw [mW_r5n _ _ hd, R], by rw [mW_c6n _ _ hd, S 17 (by decide) (by decide) (by decide)], by rw [mW_c7n _ _ hd, S 13 (by decide) (by decide) (by decide)], by rw [mW_c9n _ _ hd, S 18 (by decide) (by decide) (by decide)], by rw [mW_c10n _ _ hd, S 19 (by decide) (by decide) (by decide)], by rw [mW_no _ _ _ rfl]; exact b11d d hd⟩)
  · refine hot id (pL0_mIs hi) ?_ ?_ ?_ ?_ ?_ ?_ ?_ ?_ ?_ <;> intros <;> rintro rfl <;> simp [pL0] at hi
  · rw [hot [0] rfl (by simp) (by simp) (by simp) (by simp) (by simp) (by simp) (by simp) (by simp) (by simp)]
  · rw [hot [0] rfl (by simp) (by simp) (by simp) (by simp) (by simp) (by simp) (by simp) (by simp) (by simp)]
  · rw [mW_no _ _ _ rfl, hB _ (by simp) (by simp) (by simp) (by simp) (by simp)]
    rcases sX_cases (sJ I0 jn (nI c) (nI w) x y) c X' [3] with ⟨f, e, -⟩ | ⟨-, e⟩
    · simp at e
    · rw [e]; exact sJ_3 _ _ _ _ _ _
  · obtain ⟨q1, q2, q3, q4⟩ := sJ_4 I0 jn (nI c) (nI w) x y r
    rw [if_neg (by omega), i4] at q1 q2 q3 q4
    rw [h4, h4, h4, h4]
    exact ⟨q1, q2, q3, q4⟩
  · obtain ⟨q1, q2, q3, q4⟩ := sJ_4 I0 jn (nI c) (nI w) x y jn
    rw [if_pos rfl] at q1 q2 q3 q4
    rw [h4, h4, h4, h4]
    exact ⟨q1, q2, q3, q4⟩
/-- .. where the plans stay -/
theorem LV.case1 {h : xS} {I B : xI} {jn c w : Nat} {x y : Int32} {X X' : xX} (hL : LV h I jn) (hj : jn < 512) (hc : c < sNc h) (hw : 1 ≤ w ∧ w ≤ 5) (hX : ∃ r, X = rq3 (gX I c) r) (hX' : X' = (sHap h I w x y (sPl h c, X)).2) (hv : sVal h w x (sPl h c))
    (hB : ∀ id, id ≠ [20] → id ≠ [24, 22] → id ≠ [30] → B id = kI h I jn c w x y X id) (b10 : B [20] 10 = I [20] 10) (b20 : B [20] 20 = I [20] 20) : LV h (mW B c X') (jn + 1) := by
  obtain ⟨v1, v2, v3, v4, v5⟩ := (hL.2.1.2.2.2.1 c hc).2
  have hp1 : (sHap h I w x y (sPl h c, X)).1 = sPl h c := by
    rcases (show w = 1 ∨ w = 2 ∨ w = 3 ∨ w = 4 ∨ w = 5 by omega) with e | e | e | e | e <;> subst e <;> rfl
  have hk : ∀ id, (∀ f, id ≠ [11, c, f]) → id ≠ [3] → (∀ k, id ≠ [4, k]) → kI h I jn c w x y X id = I id := fun id a b d => by
    unfold kI
    rcases sX_cases (sJ I jn (nI c) (nI w) x y) c (sHap h I w x y (sPl h c, X)).2 id with ⟨f, e, -⟩ | ⟨-, e⟩
    · exact absurd e (a f)
    · rw [e, sJ_n _ _ _ _ _ _ b d]
  have b9 : B [24, 9] = I [24, 9] := by rw [hB _ (by simp) (by simp) (by simp), hk _ (by simp) (by simp) (by simp)]
  have b11 : B [24, 11] = I [24, 11] := by rw [hB _ (by simp) (by simp) (by simp), hk _ (by simp) (by simp) (by simp)]
  exact hL.case hj hc (by omega) hX hX' hv (h' := h) (I0 := I) (fun _ _ => rfl) (fun id a1 a2 a3 _ _ => by rw [hB id a1 a2 a3, hX']; rfl) rfl rfl rfl rfl rfl hp1.symm (fun _ _ => rfl) (fun _ _ _ => rfl) (fun p hp => by rw [b9]; exact ⟨(hL.1.2.2.1 p hp).2.1, (hL.1.2.2.1 p hp).2.2.1⟩) (fun _ z => z) (fun _ _ => by rw [b9]) ⟨v4, (hL.2.1.1.2.2 c hc).1, v5⟩ (fun z => by omega) b10 b20 (by rw [b11]; exact v2) (fun _ _ => by rw [b11])
theorem late_eq {P : Nat → Nat → Int32} {X : xX} {j : Nat} (h1 : 1 ≤ P j 5) (h2 : P j 5 ≤ 99) (h3 : 0 ≤ (X 4 j).toInt) (h4 : (X 4 j).toInt ≤ 10000) : sLte P X j = mLt P X j := by
  unfold sLte mLt sUnt
  have a1 : (1 : Int) ≤ (P j 5).toInt := by rw [Int32.le_iff_toInt_le] at h1; simpa using h1
  have a2 : (P j 5).toInt ≤ 99 := by rw [Int32.le_iff_toInt_le] at h2; simpa using h2
  have e : (P j 5 - X 4 j + 1).toInt = (P j 5).toInt - (X 4 j).toInt + 1 := by
    rw [Int32.toInt_add, Int32.toInt_sub, show (1 : Int32).toInt = 1 from by decide, Int.bmod_eq_of_le (n := (P j 5).toInt - (X 4 j).toInt) (by omega) (by omega), Int.bmod_eq_of_le (by omega) (by omega)]
  have k : (P j 5 - X 4 j + 1 ≤ 0) ↔ P j 5 < X 4 j := by
    rw [Int32.le_iff_toInt_le, Int32.lt_iff_toInt_lt, e, show (0 : Int32).toInt = 0 from by decide]
    omega
  by_cases q : P j 5 < X 4 j
  · rw [decide_eq_true q, decide_eq_true (k.mpr q)]
  · rw [decide_eq_false q, decide_eq_false (fun z => q (k.mp z))]
theorem lats_eq {P : Nat → Nat → Int32} {X : xX} {n : Nat} (h : ∀ j, j < n → sLte P X j = mLt P X j) : ∀ i, i ≤ n → sLat P X i = mLa P X i
  | 0, _ => rfl
  | i + 1, hi => by
    have e := h i (by omega)
    show sLat P X i + (if sAct P X i = true ∧ sUnt P X i ≤ 0 then 1 else 0) = mLa P X i + (if mLt P X i = true then 1 else 0)
    rw [lats_eq h i (by omega), ← e]
    unfold sLte
    by_cases q : sAct P X i = true ∧ sUnt P X i ≤ 0
    · rw [if_pos q, q.1, decide_eq_true q.2]; rfl
    · rw [if_neg q, if_neg (fun z => q (by rw [Bool.and_eq_true, decide_eq_true_iff] at z; exact z))]
theorem LV.late {h : xS} {I : xI} {jn : Nat} (hL : LV h I jn) (hj : jn ≤ 600) {c : Nat} (hc : c < sNc h) {j : Nat} (hjz : j < sSz h (sPl h c)) : sLte (vP I (sPl h c)) (gX I c) j = mLt (vP I (sPl h c)) (gX I c) j := by
  have hp := (hL.2.1.1.2.2 c hc).1
  obtain ⟨-, -, z1, z2⟩ := (hL.1.2.2.1 _ hp).2.2.2.1 j hjz
  have k := hL.2.2.1 c hc j
  exact late_eq z1 z2 k.1 (by omega)
theorem LV.lates {h : xS} {I J : xI} {jn : Nat} (hL : LV h I jn) (hj : jn ≤ 600) {Xf : Nat → xX} (hX : ∀ c, c < sNc h → Xf c = gX I c) (hP : ∀ c, c < sNc h → vP J (sPl h c) = vP I (sPl h c)) : ∀ i, i ≤ sNc h → sLas h I i = mLas h J Xf i
  | 0, _ => rfl
  | i + 1, hi => by
    show sLas h I i + sLat (vP I (sPl h i)) (gX I i) (sSz h (sPl h i)) = mLas h J Xf i + mLa (vP J (sPl h i)) (Xf i) (sSz h (sPl h i))
    rw [LV.lates hL hj hX hP i (by omega), hX i (by omega), hP i (by omega), lats_eq (fun j hjz => hL.late hj (show i < sNc h by omega) hjz) _ (Nat.le_refl _)]
theorem sums_eq {h : xS} {I : xI} {nc : Nat} (hA : ∀ c, c < nc → I [22, 15, c] = gX I c 4) : ∀ i, i ≤ nc → sSas h I i = mSas h I i
  | 0, _ => rfl
  | i + 1, hi => by
    have e : ∀ n, sSum (gX I i) n = sSum (fun _ => I [22, 15, i]) n := fun n => by
      induction n with
      | zero => rfl
      | succ n ih =>
        show sSum (gX I i) n + (gX I i 4 n).toInt64 = sSum (fun _ => I [22, 15, i]) n + (I [22, 15, i] n).toInt64
        rw [ih, hA i (by omega)]
    show sSas h I i + sSum (gX I i) (sSz h (sPl h i)) = mSas h I i + sSum (fun _ => I [22, 15, i]) (sSz h (sPl h i))
    rw [sums_eq hA i (by omega), e]
/-- the model's numbers of a case are the class's -/
theorem LV.view {h : xS} {I : xI} {jn c : Nat} (hL : LV h I jn) (hc : c < sNc h) {J : xI} (e : ∀ id, mIs id = true → J id = I id) : mW J c (gX I c) = J := by
  obtain ⟨u, v⟩ := hL.2.1.2.2.2.1 c hc
  obtain ⟨z1, z2, z3, z4, z5, z6, z7, z8⟩ := u
  funext id
  by_cases hm : mIs id = true
  · rw [e id hm]
    have ei : ∀ id', mIs id' = true → J id' = I id' := e
    unfold mIs at hm
    split at hm
    · rename_i d
      by_cases q : d = c
      · subst q; rw [mW_r1, z1]
      · rw [mW_r1n _ _ q, ei _ rfl]
    · rename_i d
      by_cases q : d = c
      · subst q; rw [mW_r2, z2]
      · rw [mW_r2n _ _ q, ei _ rfl]
    · rename_i d
      by_cases q : d = c
      · subst q; rw [mW_r4, z3]
      · rw [mW_r4n _ _ q, ei _ rfl]
    · rename_i d
      by_cases q : d = c
      · subst q; rw [mW_r5, z4]
      · rw [mW_r5n _ _ q, ei _ rfl]
    · funext k
      by_cases q : k = c
      · subst q; rw [mW_c6, z5]
      · rw [mW_c6n _ _ q, ei _ rfl]
    · funext k
      by_cases q : k = c
      · subst q; rw [mW_c7, z6]
      · rw [mW_c7n _ _ q, ei _ rfl]
    · funext k
      by_cases q : k = c
      · subst q; rw [mW_c9, z7]
      · rw [mW_c9n _ _ q, ei _ rfl]
    · funext k
      by_cases q : k = c
      · subst q; rw [mW_c10, z8]
      · rw [mW_c10n _ _ q, ei _ rfl]
    · funext k
      by_cases q : k = 21
      · subst q; rw [mW_c8, v.1, hL.2.1.2.2.1]
      · rw [mW_20 _ _ _ q, ei _ rfl]
    · cases hm
  · exact mW_no _ _ _ (by simpa using hm)
