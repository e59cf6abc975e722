/-! OUTCOMES: days pass; the done share -/
theorem kP_no (h : xS) (I : xI) (jn d : Nat) {id : List Nat} (h3 : id ≠ [3]) (h4 : ∀ k, id ≠ [4, k]) (h11 : ∀ c f, id ≠ [11, c, f]) : kP h I jn d id = I id := by
  unfold kP sXs
  split
  · exact absurd rfl (h11 _ _)
  · exact sJ_n _ _ _ _ _ _ h3 h4
theorem kP_11 (h : xS) (I : xI) (jn d c f : Nat) : kP h I jn d [11, c, f] = if c < sNc h then (sItr h I 7 0 0 d (sPl h c, gX I c)).2 f else I [11, c, f] := by
  unfold kP
  rw [sXs_at]
  by_cases e : c < sNc h
  · rw [if_pos e, if_pos e]
  · rw [if_neg e, if_neg e, sJ_n _ _ _ _ _ _ (by simp) (by simp)]
theorem kP_J (h : xS) (I : xI) (jn d : Nat) {id : List Nat} (h11 : ∀ c f, id ≠ [11, c, f]) : kP h I jn d id = sJ I jn (-1) 7 (nI d) 0 id := by
  unfold kP sXs
  split
  · exact absurd rfl (h11 _ _)
  · rfl
theorem mIt_kK {id : List Nat} (h : mIt id = true) : kK id = true := by
  unfold kK
  split <;> first | rfl | (exfalso; revert h; simp [mIt]; done)
theorem pL0_mIt {id : List Nat} (h : pL0 id = true) : mIt id = false := by
  unfold mIt
  split <;> first | rfl | (exfalso; revert h; simp [pL0]; done)
theorem pL0_kK {id : List Nat} (h : pL0 id = true) : kK id = true := by
  unfold kK
  split <;> first | rfl | (exfalso; revert h; simp [pL0]; done)
theorem LV.views {h : xS} {I J : xI} {jn : Nat} (hL : LV h I jn) (e : ∀ id, mIt id = true → J id = I id) : mWs J (sNc h) (gX I) = J := by
  funext id
  by_cases hm : mIt id = true
  · have ei : ∀ id', mIt id' = true → J id' = I id' := e
    have u := fun c hc => (hL.2.1.2.2.2.1 c hc).1
    unfold mIt at hm
    split at hm
    · rename_i d
      funext k
      show (if d < sNc h then gX I d 1 k else J [22, 12, d] k) = J [22, 12, d] k
      by_cases q : d < sNc h
      · rw [if_pos q, ei _ rfl, (u d q).1]
      · rw [if_neg q]
    · rename_i d
      funext k
      show (if d < sNc h then gX I d 2 k else J [22, 14, d] k) = J [22, 14, d] k
      by_cases q : d < sNc h
      · rw [if_pos q, ei _ rfl, (u d q).2.1]
      · rw [if_neg q]
    · rename_i d
      funext k
      show (if d < sNc h then gX I d 4 k else J [22, 15, d] k) = J [22, 15, d] k
      by_cases q : d < sNc h
      · rw [if_pos q, ei _ rfl, (u d q).2.2.1]
      · rw [if_neg q]
    · rename_i d
      funext k
      show (if d < sNc h then gX I d 5 k else J [22, 16, d] k) = J [22, 16, d] k
      by_cases q : d < sNc h
      · rw [if_pos q, ei _ rfl, (u d q).2.2.2.1]
      · rw [if_neg q]
    · funext k
      show (if k < sNc h then gX I k 0 6 else J [24, 17] k) = J [24, 17] k
      by_cases q : k < sNc h
      · rw [if_pos q, ei _ rfl, (u k q).2.2.2.2.1]
      · rw [if_neg q]
    · funext k
      show (if k < sNc h then gX I k 0 7 else J [24, 13] k) = J [24, 13] k
      by_cases q : k < sNc h
      · rw [if_pos q, ei _ rfl, (u k q).2.2.2.2.2.1]
      · rw [if_neg q]
    · funext k
      show (if k < sNc h then gX I k 0 9 else J [24, 18] k) = J [24, 18] k
      by_cases q : k < sNc h
      · rw [if_pos q, ei _ rfl, (u k q).2.2.2.2.2.2.1]
      · rw [if_neg q]
    · funext k
      show (if k < sNc h then gX I k 0 10 else J [24, 19] k) = J [24, 19] k
      by_cases q : k < sNc h
      · rw [if_pos q, ei _ rfl, (u k q).2.2.2.2.2.2.2]
      · rw [if_neg q]
    · cases hm
  · rw [mWs_no _ _ _ (by simpa using hm)]
theorem sLas_congr {h : xS} {I I' : xI} {nc : Nat} (hP : ∀ c, c < nc → vP I' (sPl h c) = vP I (sPl h c)) (hX : ∀ c, c < nc → gX I' c = gX I c) : ∀ i, i ≤ nc → sLas h I' i = sLas h I i
  | 0, _ => rfl
  | i + 1, hi => by
    show sLas h I' i + sLat (vP I' (sPl h i)) (gX I' i) (sSz h (sPl h i)) = sLas h I i + sLat (vP I (sPl h i)) (gX I i) (sSz h (sPl h i))
    rw [sLas_congr hP hX i (by omega), hP i (by omega), hX i (by omega)]
set_option maxHeartbeats 1000000 in
theorem o_pass {l : Launch} (hst : l.stackTraces = false) {g0 : xG} {a : List Nat → Nat} {h : xS} {I : xI} {n jn : Nat} (hL : LW h I jn) (hj512 : jn < 512) (x : Int32) : lwO l g0 a h I n jn yL_pass cL_pass 4 [(0, 9, 12, 21)] yX7_pass cX7_pass 5 FieldType.int [.int x] := by
  have hW := hL.1.1.1
  have hC := hL.1.2.1.1
  have h3 := hW.1
  have n4 := hC.1
  have hm := hL.1.2.1.2.1
  have hz := hL.1.1.2.1
  by_cases x1 : x < 1
  · exact lwO.bad 1 0 (by decide) ⟨by omega, by omega, by omega, by omega⟩ (w_pass_eIA l (setG g0 a) (xD h) I (xFh h) n _ _ x trivial (t_X6_pass_l l hst (setG g0 a) h I n x x1)) (fun n' => c_X7_pass_1 l (setG g0 a) h I n' x (by unfold mIn; rw [decide_eq_false (Int32.not_le.mpr x1)]; rfl))
  by_cases x2 : 10 < x
  · exact lwO.bad 1 0 (by decide) ⟨by omega, by omega, by omega, by omega⟩ (w_pass_eIA l (setG g0 a) (xD h) I (xFh h) n _ _ x trivial (t_X6_pass_h l hst (setG g0 a) h I n x x1 x2)) (fun n' => c_X7_pass_1 l (setG g0 a) h I n' x (by unfold mIn; rw [decide_eq_false (Int32.not_le.mpr x2)]; exact Bool.and_false _))
  obtain ⟨d, hd, rfl⟩ : ∃ d : Nat, (1 ≤ d ∧ d ≤ 10) ∧ x = nI d := by
    obtain ⟨i, hi2, rfl⟩ := nI_of (x := x) (fun z => x1 (Int32.lt_trans z (by decide)))
    refine ⟨i, ⟨?_, ?_⟩, rfl⟩
    · exact Nat.lt_of_not_le (fun z => x1 ((nI_ltI (a := i) (b := 1) (by omega) (by omega)).mpr (by omega)))
    · exact Nat.le_of_not_lt (fun z => x2 ((nI_ltI (a := 10) (b := i) (by omega) (by omega)).mpr z))
  have hz3 := hL.1.2.2.2.1.1
  have W6 := c_X6_pass l (setG g0 a) h I n hW hC jn hj512 hz3 d hd.1 hd.2
  obtain ⟨o, ho⟩ : ∃ z, z = nI (sLas h (kP h I jn d) (sNc h)) := ⟨_, rfl⟩
  obtain ⟨K, hK⟩ : ∃ z, z = kP h I jn d := ⟨_, rfl⟩
  rw [← ho, ← hK] at W6
  have kk : ∀ id, kK id = true → up K [30] 0 o id = I id := fun id hi => by
    rw [up_id (by rintro rfl; cases hi), hK, kP_no _ _ _ _ (by rintro rfl; cases hi) (by rintro k rfl; cases hi) (by rintro k f rfl; cases hi)]
  have k5 : ∀ p, up K [30] 0 o [5, p] = I [5, p] := fun p => by
    rw [up_id (by simp), hK, kP_no _ _ _ _ (by simp) (by simp) (by simp)]
  have kc := fun c hc => hL.vk (c := c) hc kk (fun p k _ => congrFun (k5 p) k)
  have kP' : ∀ c, c < sNc h → sPl h c < 3 ∧ up K [30] 0 o [24, 11] c = nI (sPl h c) ∧ mA h (up K [30] 0 o) (sPl h c) ∧ xWp h (up K [30] 0 o) (sPl h c) := fun c hc => by
    obtain ⟨-, -, q3, q4, -⟩ := kc c hc
    have hp := (hC.2.2 c hc).1
    exact ⟨by omega, q3, (q4 _ hp).1, (q4 _ hp).2⟩
  have m20 : up K [30] 0 o [20] 20 = nI (sNc h) := by rw [kk _ rfl]; exact hm
  have m21 : up K [30] 0 o [20] 21 = -1 := by rw [kk _ rfl]; exact hL.1.2.1.2.2.1
  have k7 := c_X7_pass l (setG g0 a) h (up K [30] 0 o) n (sNc h) n4 m20 (gX I) (fun c hc => (hL.1.2.1.2.2.2.1 c hc).2.1) m21 kP' d hd.1 hd.2
  rw [hL.1.views (fun id hi => kk id (mIt_kK hi))] at k7
  have vp : ∀ p, vP (up K [30] 0 o) p = vP I p := fun p => funext fun j => kk _ rfl
  have vc : ∀ p, vC (up K [30] 0 o) p = vC I p := fun p => funext fun j => funext fun w => funext fun k => kk _ rfl
  have us : sUs (fun _ => True) h h I (up K [30] 0 o) := fun p _ => ⟨vp p, vc p, rfl, rfl⟩
  have hD : ∀ c, mDay h (up K [30] 0 o) (gX I) d c = (sItr h I 7 0 0 d (sPl h c, gX I c)).2 := fun c => by
    unfold mDay
    rw [(sItr_congr us (w := 7) (x := 0) (y := 0) (s := (sPl h c, gX I c)) (Or.inl ⟨by decide, trivial⟩) (fun _ => trivial) d).1]
  obtain ⟨XX, hXX⟩ : ∃ z, z = mDay h (up K [30] 0 o) (gX I) d := ⟨_, rfl⟩
  rw [← hXX] at k7 hD
  obtain ⟨BB, hBB⟩ : ∃ z, z = up (up K [30] 0 o) [20] 23 0 := ⟨_, rfl⟩
  rw [← hBB] at k7
  have bk : ∀ id, kK id = true → id ≠ [20] → BB id = I id := fun id hi b => by rw [hBB, up_id b, kk id hi]
  have bK : ∀ id, id ≠ [20] → id ≠ [30] → BB id = K id := fun id b1 b2 => by rw [hBB, up_id b1, up_id b2]
  have b20 : ∀ k, k ≠ 23 → BB [20] k = I [20] k := fun k b => by rw [hBB, up_ne b, kk _ rfl]
  have b23 : BB [20] 23 = 0 := by rw [hBB, up_at]
  have b30 : BB [30] 0 = o := by rw [hBB, up_id (by simp), up_at]
  have b4 : ∀ k, BB [4, k] = sJ I jn (-1) 7 (nI d) 0 [4, k] := fun k => by rw [bK _ (by simp) (by simp), hK, kP_J _ _ _ _ (by simp)]
  have gx : ∀ c, c < sNc h → gX (mWs BB (sNc h) XX) c = XX c := fun c hc => funext fun f => by
    show mWs BB (sNc h) XX [11, c, f] = XX c f
    rw [mWs_no _ _ _ rfl, bK _ (by simp) (by simp), hK, kP_11, if_pos hc, hD]
  have hV : LV h (mWs BB (sNc h) XX) (jn + 1) := by
    refine LV.days (I' := mWs BB (sNc h) XX) hL.1 hj512 hd (fun id hi => ?_) (fun p => ?_) ?_ ?_ ?_ ?_ ?_ ?_ ?_ ?_ (fun r hr => ?_) ?_ (fun c hc => (gx c hc).trans (hD c)) ?_ (fun c hc => ?_) (fun c hc hc4 => ?_)
    · rw [mWs_no _ _ _ (pL0_mIt hi), bk id (pL0_kK hi) (by rintro rfl; cases hi)]
    · rw [mWs_no _ _ _ rfl, hBB, up_id (by simp), k5]
    · rw [mWs_no _ _ _ rfl, bk _ rfl (by simp)]
    · rw [mWs_no _ _ _ rfl, bk _ rfl (by simp)]
    · rw [mWs_no _ _ _ rfl, bk _ rfl (by simp)]
    · rw [mWs_20, b20 _ (by decide)]
    · rw [mWs_20, b20 _ (by decide)]
    · rw [mWs_20, b20 _ (by decide)]; exact hL.1.2.1.2.2.1
    · rw [mWs_no _ _ _ rfl, bK _ (by simp) (by simp), hK, kP_J _ _ _ _ (by simp)]; exact sJ_3 _ _ _ _ _ _
    · rw [mWs_11, bk _ rfl (by simp)]
    · obtain ⟨q1, q2, q3, q4⟩ := sJ_4 I jn (-1) 7 (nI d) 0 r
      rw [if_neg (by omega)] at q1 q2 q3 q4
      rw [mWs_no _ _ _ rfl, mWs_no _ _ _ rfl, mWs_no _ _ _ rfl, mWs_no _ _ _ rfl, b4, b4, b4, b4]
      exact ⟨q1, q2, q3, q4⟩
    · obtain ⟨q1, q2, q3, q4⟩ := sJ_4 I jn (-1) 7 (nI d) 0 jn
      rw [if_pos rfl] at q1 q2 q3 q4
      rw [mWs_no _ _ _ rfl, mWs_no _ _ _ rfl, mWs_no _ _ _ rfl, b4, b4, b4]
      exact ⟨q1, q2, q3⟩
    · funext f
      show mWs BB (sNc h) XX [11, 4, f] = I [11, 4, f]
      rw [mWs_no _ _ _ rfl, bK _ (by simp) (by simp), hK, kP_11, if_neg (by omega)]
    · have g := gx c hc
      refine ⟨?_, ?_, ?_, ?_, ?_, ?_, ?_, ?_⟩ <;> rw [g]
      · funext k; exact if_pos hc
      · funext k; exact if_pos hc
      · funext k; exact if_pos hc
      · funext k; exact if_pos hc
      · exact if_pos hc
      · exact if_pos hc
      · exact if_pos hc
      · exact if_pos hc
    · obtain ⟨q1, q2, q3, q4, q5, q6, q7, q8⟩ := hL.1.2.1.2.2.2.2 c hc hc4
      have hn : ¬ c < sNc h := by omega
      refine ⟨?_, ?_, ?_, ?_, ?_, ?_, ?_, ?_⟩
      · rw [← q1, ← bk [22, 12, c] rfl (by simp)]; funext k; exact if_neg hn
      · rw [← q2, ← bk [22, 14, c] rfl (by simp)]; funext k; exact if_neg hn
      · rw [← q3, ← bk [22, 15, c] rfl (by simp)]; funext k; exact if_neg hn
      · rw [← q4, ← bk [22, 16, c] rfl (by simp)]; funext k; exact if_neg hn
      · rw [← q5, ← bk [24, 17] rfl (by simp)]; exact if_neg hn
      · rw [← q6, ← bk [24, 13] rfl (by simp)]; exact if_neg hn
      · rw [← q7, ← bk [24, 18] rfl (by simp)]; exact if_neg hn
      · rw [← q8, ← bk [24, 19] rfl (by simp)]; exact if_neg hn
  have vpJ : ∀ p, vP (mWs BB (sNc h) XX) p = vP I p := fun p => funext fun j => by
    show mWs BB (sNc h) XX [7, p, j] = I [7, p, j]
    rw [mWs_no _ _ _ rfl, bk _ rfl (by simp)]
  have e1 := hV.lates (J := up K [30] 0 o) (by omega) (Xf := XX) (fun c hc => (gx c hc).symm) (fun c hc => (vp _).trans (vpJ _).symm) (sNc h) (Nat.le_refl _)
  have e2 : sLas h (kP h I jn d) (sNc h) = sLas h (mWs BB (sNc h) XX) (sNc h) := sLas_congr (fun c hc => by
      rw [vpJ]
      funext j
      exact kP_no _ _ _ _ (by simp) (by simp) (by simp)) (fun c hc => by
      rw [gx c hc, hD]
      funext f
      show kP h I jn d [11, c, f] = _
      rw [kP_11, if_pos hc]) (sNc h) (Nat.le_refl _)
  have e3 : nI (mLas h (up K [30] 0 o) XX (sNc h)) = o := (congrArg nI (e1.symm.trans e2.symm)).trans ho.symm
  rw [e3] at k7
  exact lwO.good h (up K [30] 0 o) (mWs BB (sNc h) XX) (jn + 1) o ⟨by omega, by omega, by omega, by omega⟩ (Nat.le_refl _) (w_pass l (setG g0 a) (xD h) (xD h) I K (xFh h) (xFh h) n n _ _ 0 0 (nI d) o trivial trivial W6) k7 (by rw [mWs_20]; exact b23) (by rw [mWs_no _ _ _ rfl]; exact b30) ⟨hV, hL.2⟩
