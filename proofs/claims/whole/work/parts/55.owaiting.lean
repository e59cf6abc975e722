set_option maxHeartbeats 1000000 in
theorem o_setWaiting {l : Launch} (hst : l.stackTraces = false) {g0 : xG} {a : List Nat → Nat} {h : xS} {I : xI} {n jn : Nat} (hL : LW h I jn) (hj512 : jn < 512) (x v : Int32) (hv : sBo v) : lwO l g0 a h I n jn yL_setWaiting cL_setWaiting 5 [(0, 17, 20, 19)] yX7_setWaiting cX7_setWaiting 4 FieldType.boolean [.int x, .int v] := by
  have hW := hL.1.1.1
  have hC := hL.1.2.1.1
  have h3 := hW.1
  have n4 := hC.1
  have hm := hL.1.2.1.2.1
  have hz := hL.1.1.2.1
  rcases sIn_cases (x := x) (q := sNc h) (by omega) with ⟨z1, z2⟩ | ⟨c, hc, rfl⟩
  · exact lwO.bad 1 0 (by decide) ⟨by omega, by omega, by omega, by omega⟩ (w_setWaiting_eIO l (setG g0 a) (xD h) I (xFh h) n _ _ x v trivial (t_X6_setWaiting_c l hst (setG g0 a) h I n hC x z2 v)) (fun n' => c_X7_setWaiting_c l (setG g0 a) h I n' (sNc h) n4 hm x v z1)
  · obtain ⟨u, v1, v2, v3, v4, v5⟩ := hL.1.2.1.2.2.2.1 c hc
    have hp := (hC.2.2 c hc).1
    have hA := (hL.1.1.2.2.1 _ hp).1
    have hWp := hW.2.2 _ hp
    have h8 := hWp.1
    have hz3 := hL.1.2.2.2.1.1
    have hch := (hC.2.2 c hc).2
    rcases hv with rfl | rfl
    · skip
      obtain ⟨K, hK⟩ : ∃ z, z = kI h I jn c 5 0 0 (gX I c) := ⟨_, rfl⟩
      have W6 := c_X6_setWaiting_0 l (setG g0 a) h I n hW hC c hc jn hj512 hz3 v3
      rw [← hK] at W6
      obtain ⟨m1, m2, m3, m45, m6, e1, e2, -⟩ := hL.vk hc (J := up K [30] 0 (I [11, c, 0] 7)) (by rw [hK]; exact kI_kK _ _ _ _ _ _ _ _ _) (fun p k _ => by rw [hK, kI_5])
      obtain ⟨m4, m5⟩ := m45 _ hp
      have k7 := c_X7_setWaiting l (setG g0 a) h (up K [30] 0 (I [11, c, 0] 7)) n c (gX I c) (sNc h) n4 m1 hc (sPl h c) (by omega) m3 m4 m5 0 (Or.inl rfl) v3
      rw [m6, e1, e2] at k7
      have hX' : sTail (vP I (sPl h c)) (vC I (sPl h c)) (sCn h (sPl h c)) (sSz h (sPl h c)) (up2 (gX I c) 0 7 0) = (sHap h I 5 0 0 (sPl h c, (gX I c))).2 := rfl
      obtain ⟨BB, hBB⟩ : ∃ z, z = up (up K [30] 0 (I [11, c, 0] 7)) [20] 23 0 := ⟨_, rfl⟩
      have hBi : ∀ id, id ≠ [20] → id ≠ [24, 22] → id ≠ [30] → BB id = kI h I jn c 5 0 0 (gX I c) id := fun id a b d => by rw [hBB, up_id a, up_id d, hK]
      have b10 : BB [20] 10 = I [20] 10 := by rw [hBB, up_ne (by decide)]; exact m2.trans hz.symm
      have b20 : BB [20] 20 = I [20] 20 := by rw [hBB, up_ne (by decide)]; exact m1.trans hm.symm
      have b23 : BB [20] 23 = 0 := by rw [hBB, up_at]
      have b30 : BB [30] 0 = (I [11, c, 0] 7) := by rw [hBB, up_id (by simp), up_at]
      have hV := LV.case1 (B := BB) (w := 5) (x := 0) (y := 0) (X := (gX I c)) hL.1 hj512 hc ⟨by omega, by omega⟩ ⟨_, (rq3_self _).symm⟩ hX' hp hBi b10 b20
      rw [← hBB] at k7
      exact lwO.good h (up K [30] 0 (I [11, c, 0] 7)) _ (jn + 1) (I [11, c, 0] 7) ⟨by omega, by omega, by omega, by omega⟩ (Nat.le_refl _) (w_setWaiting l (setG g0 a) (xD h) (xD h) I K (xFh h) (xFh h) n n _ _ 0 0 (nI c) 0 (I [11, c, 0] 7) v3 trivial trivial W6) k7 (by rw [mW_20 _ _ _ (by decide)]; exact b23) (by rw [mW_no _ _ _ rfl]; exact b30) ⟨hV, hL.2⟩ (fun _ => v3)
    · skip
      obtain ⟨K, hK⟩ : ∃ z, z = kI h I jn c 4 0 0 (gX I c) := ⟨_, rfl⟩
      have W6 := c_X6_setWaiting_1 l (setG g0 a) h I n hW hC c hc jn hj512 hz3 v3
      rw [← hK] at W6
      obtain ⟨m1, m2, m3, m45, m6, e1, e2, -⟩ := hL.vk hc (J := up K [30] 0 (I [11, c, 0] 7)) (by rw [hK]; exact kI_kK _ _ _ _ _ _ _ _ _) (fun p k _ => by rw [hK, kI_5])
      obtain ⟨m4, m5⟩ := m45 _ hp
      have k7 := c_X7_setWaiting l (setG g0 a) h (up K [30] 0 (I [11, c, 0] 7)) n c (gX I c) (sNc h) n4 m1 hc (sPl h c) (by omega) m3 m4 m5 1 (Or.inr rfl) v3
      rw [m6, e1, e2] at k7
      have hX' : sTail (vP I (sPl h c)) (vC I (sPl h c)) (sCn h (sPl h c)) (sSz h (sPl h c)) (up2 (gX I c) 0 7 1) = (sHap h I 4 0 0 (sPl h c, (gX I c))).2 := rfl
      obtain ⟨BB, hBB⟩ : ∃ z, z = up (up K [30] 0 (I [11, c, 0] 7)) [20] 23 0 := ⟨_, rfl⟩
      have hBi : ∀ id, id ≠ [20] → id ≠ [24, 22] → id ≠ [30] → BB id = kI h I jn c 4 0 0 (gX I c) id := fun id a b d => by rw [hBB, up_id a, up_id d, hK]
      have b10 : BB [20] 10 = I [20] 10 := by rw [hBB, up_ne (by decide)]; exact m2.trans hz.symm
      have b20 : BB [20] 20 = I [20] 20 := by rw [hBB, up_ne (by decide)]; exact m1.trans hm.symm
      have b23 : BB [20] 23 = 0 := by rw [hBB, up_at]
      have b30 : BB [30] 0 = (I [11, c, 0] 7) := by rw [hBB, up_id (by simp), up_at]
      have hV := LV.case1 (B := BB) (w := 4) (x := 0) (y := 0) (X := (gX I c)) hL.1 hj512 hc ⟨by omega, by omega⟩ ⟨_, (rq3_self _).symm⟩ hX' hp hBi b10 b20
      rw [← hBB] at k7
      exact lwO.good h (up K [30] 0 (I [11, c, 0] 7)) _ (jn + 1) (I [11, c, 0] 7) ⟨by omega, by omega, by omega, by omega⟩ (Nat.le_refl _) (w_setWaiting l (setG g0 a) (xD h) (xD h) I K (xFh h) (xFh h) n n _ _ 0 0 (nI c) 1 (I [11, c, 0] 7) v3 trivial trivial W6) k7 (by rw [mW_20 _ _ _ (by decide)]; exact b23) (by rw [mW_no _ _ _ rfl]; exact b30) ⟨hV, hL.2⟩ (fun _ => v3)
