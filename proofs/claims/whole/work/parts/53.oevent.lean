set_option maxHeartbeats 1000000 in
theorem o_event {l : Launch} (hst : l.stackTraces = false) {g0 : xG} {a : List Nat → Nat} {h : xS} {I : xI} {n jn : Nat} (hL : LW h I jn) (hj512 : jn < 512) (x y : Int32) : lwO l g0 a h I n jn yL_event cL_event 5 [(0, 10, 13, 19), (0, 10, 17, 21)] yX7_event cX7_event 3 FieldType.int [.int x, .int y] := by
  have hW := hL.1.1.1
  have hC := hL.1.2.1.1
  have h3 := hW.1
  have n4 := hC.1
  have hm := hL.1.2.1.2.1
  have hz := hL.1.1.2.1
  rcases sIn_cases (x := x) (q := sNc h) (by omega) with ⟨z1, z2⟩ | ⟨c, hc, rfl⟩
  · exact lwO.bad 1 0 (by decide) ⟨by omega, by omega, by omega, by omega⟩ (w_event_eIO l (setG g0 a) (xD h) I (xFh h) n _ _ x y trivial (t_X6_event_c l hst (setG g0 a) h I n hC x z2 y)) (fun n' => c_X7_event_c l (setG g0 a) h I n' (sNc h) n4 hm x y z1)
  · obtain ⟨u, v1, v2, v3, v4, v5⟩ := hL.1.2.1.2.2.2.1 c hc
    have hp := (hC.2.2 c hc).1
    have hA := (hL.1.1.2.2.1 _ hp).1
    have hWp := hW.2.2 _ hp
    have h8 := hWp.1
    have hz3 := hL.1.2.2.2.1.1
    have hch := (hC.2.2 c hc).2
    cases hv : sIn y 0 10 with
    | false => exact lwO.bad 2 0 (by decide) ⟨by omega, by omega, by omega, by omega⟩ (w_event_eIA l (setG g0 a) (xD h) I (xFh h) n _ _ (nI c) y trivial (t_X6_event_e l hst (setG g0 a) h I n hW hC c hc y hv)) (fun n' => c_X7_event_e l (setG g0 a) h I n' (sNc h) n4 hm c hc y hv)
    | true =>
      obtain ⟨K, hK⟩ : ∃ z, z = kI h I jn c 2 y 0 (sRem (gX I c) 8) := ⟨_, rfl⟩
      have W6 := c_X6_event l (setG g0 a) h I n hW hC c hc jn hj512 hz3 y hv
      rw [← hK] at W6
      obtain ⟨m1, m2, m3, m45, m6, e1, e2, -⟩ := hL.vk hc (J := up K [30] 0 (nI (sChg (sHap h I 2 y 0 (sPl h c, (sRem (gX I c) 8))).2 (-1) 8))) (by rw [hK]; exact kI_kK _ _ _ _ _ _ _ _ _) (fun p k _ => by rw [hK, kI_5])
      obtain ⟨m4, m5⟩ := m45 _ hp
      have k7 := c_X7_event l (setG g0 a) h (up K [30] 0 (nI (sChg (sHap h I 2 y 0 (sPl h c, (sRem (gX I c) 8))).2 (-1) 8))) n c (gX I c) (sNc h) n4 m1 hc (sPl h c) (by omega) m3 m4 m5 hch y hv
      rw [m6, e1, e2] at k7
      have hX' : sTail (vP I (sPl h c)) (vC I (sPl h c)) (sCn h (sPl h c)) (sSz h (sPl h c)) (up2 (sRem (gX I c) 8) 0 8 y) = (sHap h I 2 y 0 (sPl h c, (sRem (gX I c) 8))).2 := rfl
      have hcg : sChg (sHap h I 2 y 0 (sPl h c, (sRem (gX I c) 8))).2 (-1) 8 = sChg (sHap h I 2 y 0 (sPl h c, (sRem (gX I c) 8))).2 (-1) (sSz h (sPl h c)) := by
        rw [← hX']
        refine sChg_8 h8 (fun k k1 k2 => ?_)
        rw [sTail_hi _ _ _ _ _ k1, sTail_3]
        show sRem (gX I c) 8 2 k = sRem (gX I c) 8 3 k
        unfold sRem
        rw [if_neg (fun z => absurd z.1 (by decide)), if_pos ⟨rfl, k2⟩]
      rw [hX', ← hcg] at k7
      obtain ⟨BB, hBB⟩ : ∃ z, z = mKp (up (up K [30] 0 (nI (sChg (sHap h I 2 y 0 (sPl h c, (sRem (gX I c) 8))).2 (-1) 8))) [20] 23 0) (sRem (gX I c) 8) 8 := ⟨_, rfl⟩
      have hBi : ∀ id, id ≠ [20] → id ≠ [24, 22] → id ≠ [30] → BB id = kI h I jn c 2 y 0 (sRem (gX I c) 8) id := fun id a b d => by rw [hBB, mKp_ne _ _ _ b, up_id a, up_id d, hK]
      have b10 : BB [20] 10 = I [20] 10 := by rw [hBB, mKp_ne _ _ _ (by simp), up_ne (by decide)]; exact m2.trans hz.symm
      have b20 : BB [20] 20 = I [20] 20 := by rw [hBB, mKp_ne _ _ _ (by simp), up_ne (by decide)]; exact m1.trans hm.symm
      have b23 : BB [20] 23 = 0 := by rw [hBB, mKp_ne _ _ _ (by simp), up_at]
      have b30 : BB [30] 0 = (nI (sChg (sHap h I 2 y 0 (sPl h c, (sRem (gX I c) 8))).2 (-1) 8)) := by rw [hBB, mKp_ne _ _ _ (by simp), up_id (by simp), up_at]
      have hV := LV.case1 (B := BB) (w := 2) (x := y) (y := 0) (X := (sRem (gX I c) 8)) hL.1 hj512 hc ⟨by omega, by omega⟩ (rq3_rem _) hX' hp hBi b10 b20
      rw [hX'] at hV
      rw [← hBB] at k7
      exact lwO.good h (up K [30] 0 (nI (sChg (sHap h I 2 y 0 (sPl h c, (sRem (gX I c) 8))).2 (-1) 8))) _ (jn + 1) (nI (sChg (sHap h I 2 y 0 (sPl h c, (sRem (gX I c) 8))).2 (-1) 8)) ⟨by omega, by omega, by omega, by omega⟩ (Nat.le_refl _) (w_event l (setG g0 a) (xD h) (xD h) I K (xFh h) (xFh h) n n _ _ 0 0 (nI c) y (nI (sChg (sHap h I 2 y 0 (sPl h c, (sRem (gX I c) 8))).2 (-1) 8)) trivial trivial W6) k7 (by rw [mW_20 _ _ _ (by decide)]; exact b23) (by rw [mW_no _ _ _ rfl]; exact b30) ⟨hV, hL.2⟩
