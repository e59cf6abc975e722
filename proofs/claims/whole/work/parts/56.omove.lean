set_option maxHeartbeats 1000000 in
theorem o_move {l : Launch} (hst : l.stackTraces = false) {g0 : xG} {a : List Nat → Nat} {h : xS} {I : xI} {n jn : Nat} (hL : LW h I jn) (hj512 : jn < 512) (x y : Int32) : lwO l g0 a h I n jn yL_move cL_move 5 [(0, 10, 13, 19), (0, 10, 17, 21)] yX7_move cX7_move 4 FieldType.int [.int x, .int y] := by
  have hW := hL.1.1.1
  have hC := hL.1.2.1.1
  have h3 := hW.1
  have n4 := hC.1
  have hm := hL.1.2.1.2.1
  have hz := hL.1.1.2.1
  rcases sIn_cases (x := x) (q := sNc h) (by omega) with ⟨z1, z2⟩ | ⟨c, hc, rfl⟩
  · exact lwO.bad 1 0 (by decide) ⟨by omega, by omega, by omega, by omega⟩ (w_move_eIO l (setG g0 a) (xD h) I (xFh h) n _ _ x y trivial (t_X6_move_c l hst (setG g0 a) h I n hC x z2 y)) (fun n' => c_X7_move_c l (setG g0 a) h I n' (sNc h) n4 hm x y z1)
  · obtain ⟨u, v1, v2, v3, v4, v5⟩ := hL.1.2.1.2.2.2.1 c hc
    have hp := (hC.2.2 c hc).1
    have hA := (hL.1.1.2.2.1 _ hp).1
    have hWp := hW.2.2 _ hp
    have h8 := hWp.1
    have hz3 := hL.1.2.2.2.1.1
    have hch := (hC.2.2 c hc).2
    rcases sIn_cases (x := y) (q := sNp h) (by omega) with ⟨y1, y2⟩ | ⟨q, hq, rfl⟩
    · exact lwO.bad 1 0 (by decide) ⟨by omega, by omega, by omega, by omega⟩ (w_move_eIO l (setG g0 a) (xD h) I (xFh h) n _ _ (nI c) y trivial (t_X6_move_p l hst (setG g0 a) h I n hW hC c hc y y2)) (fun n' => c_X7_move_p l (setG g0 a) h I n' (sNp h) h3 hz (sNc h) n4 hm c hc y y1)
    have hAq := (hL.1.1.2.2.1 _ hq).1
    have hWq := hW.2.2 _ hq
    by_cases hlt : sSz h q < sSz h (sPl h c)
    · exact lwO.bad 2 0 (by decide) ⟨by omega, by omega, by omega, by omega⟩ (w_move_eIA l (setG g0 a) (xD h) I (xFh h) n _ _ (nI c) (nI q) trivial (t_X6_move_s l hst (setG g0 a) h I n hW hC c hc q hq hlt)) (fun n' => c_X7_move_f l (setG g0 a) h I n' (sNp h) h3 hz (sPl h c) hp (sSz h (sPl h c)) h8 hA.1 (sNc h) n4 hm c hc v2 q hq (sSz h q) hWq.1 hAq.1 hlt)
    · have hle : sSz h (sPl h c) ≤ sSz h q := by omega
      obtain ⟨I0, hI0⟩ : ∃ z, z = up I [5, q] 3 1 := ⟨_, rfl⟩
      obtain ⟨K, hK⟩ : ∃ z, z = kI h I0 jn c 6 (nI q) 0 (gX I c) := ⟨_, rfl⟩
      have W6 := c_X6_move l (setG g0 a) h I n hW hC c hc jn hj512 hz3 q hq hle
      rw [← hI0, ← hK] at W6
      have i0 : ∀ id, (∀ p, id ≠ [5, p]) → I0 id = I id := fun id hi => by rw [hI0]; exact up_id (hi q)
      have i05 : ∀ p k, k ≠ 3 → I0 [5, p] k = I [5, p] k := fun p k hk => by rw [hI0]; exact up_ne2 _ _ (Or.inr hk)
      obtain ⟨m1, m2, m3, m45, m6, e1, e2, e9⟩ := hL.vk hc (J := up K [30] 0 (nI (sPl h c))) (fun id hi => by rw [hK, kI_kK _ _ _ _ _ _ _ _ _ _ hi]; exact i0 id (fun p => by rintro rfl; cases hi)) (fun p k hk => by rw [hK, kI_5]; exact i05 p k hk)
      have k7 := c_X7_move l (setG g0 a) (hPl h c q) (up K [30] 0 (nI (sPl h c))) n c (gX I c) (sNc h) n4 m1 hc (sPl h c) (by omega) m3 (m45 _ hp).1 (m45 _ hp).2 (sNp h) h3 m2 hp q hq (m45 _ hq).1 (m45 _ hq).2 hle
      rw [m6, e1, e2] at k7
      have hx0 : vP I0 q = vP I q := funext fun j => i0 _ (by simp)
      have hx1 : vC I0 q = vC I q := funext fun j => funext fun w => funext fun k => i0 _ (by simp)
      have hcl : (nI q).toNatClampNeg = q := nI_clamp (by omega)
      have hX0 : (sHap h I0 6 (nI q) 0 (sPl h c, gX I c)).2 = (sHap h I 6 (nI q) 0 (sPl h c, gX I c)).2 := by
        show sTl h I0 (nI q).toNatClampNeg (gX I c) = sTl h I (nI q).toNatClampNeg (gX I c)
        rw [hcl]; unfold sTl; rw [hx0, hx1]
      have hX' : sTail (vP I q) (vC I q) (sCn h q) (sSz h q) (gX I c) = (sHap h I 6 (nI q) 0 (sPl h c, gX I c)).2 := by
        show _ = sTl h I (nI q).toNatClampNeg (gX I c)
        rw [hcl]
      obtain ⟨BB, hBB⟩ : ∃ z, z = up (up (up (up K [30] 0 (nI (sPl h c))) [20] 23 0) [24, 11] c (nI q)) [24, 9] q 1 := ⟨_, rfl⟩
      have hBi : ∀ id, id ≠ [20] → id ≠ [24, 22] → id ≠ [30] → id ≠ [24, 9] → id ≠ [24, 11] → BB id = sX (sJ I0 jn (nI c) (nI 6) (nI q) 0) c (sTail (vP I q) (vC I q) (sCn h q) (sSz h q) (gX I c)) id := fun id a b d e f => by
        rw [hBB, up_id e, up_id f, up_id a, up_id d, hK, hX', ← hX0]; rfl
      have b10 : BB [20] 10 = I [20] 10 := by rw [hBB, up_id (by simp), up_id (by simp), up_ne (by decide)]; exact m2.trans hz.symm
      have b20 : BB [20] 20 = I [20] 20 := by rw [hBB, up_id (by simp), up_id (by simp), up_ne (by decide)]; exact m1.trans hm.symm
      have b23 : BB [20] 23 = 0 := by rw [hBB, up_id (by simp), up_id (by simp), up_at]
      have b30 : BB [30] 0 = nI (sPl h c) := by rw [hBB, up_id (by simp), up_id (by simp), up_id (by simp), up_at]
      have b9 : ∀ p, BB [24, 9] p = if p = q then 1 else I [24, 9] p := fun p => by
        rw [hBB, up_row, up_id (by simp), up_id (by simp), e9]
      have b53 : ∀ p, I0 [5, p] 3 = if p = q then 1 else I [5, p] 3 := fun p => by
        rw [hI0]
        by_cases e : p = q
        · rw [if_pos e, e, up_at]
        · rw [if_neg e, up_id (by simpa using e)]
      have b11 : ∀ d, BB [24, 11] d = if d = c then nI q else I [24, 11] d := fun d => by
        rw [hBB, up_id (by simp), up_row, up_id (by simp), hK, kI_kK _ _ _ _ _ _ _ _ _ _ rfl, i0 _ (by simp)]
      have hpc : sPl (hPl h c q) c = q := if_pos rfl
      have hV := LV.case (h' := hPl h c q) (I0 := I0) (B := BB) (w := 6) (x := nI q) (y := 0) (X := gX I c) hL.1 hj512 hc ⟨by omega, by omega⟩ ⟨_, (rq3_self _).symm⟩ hX' ⟨q, hq, rfl⟩ i0 hBi rfl rfl rfl rfl rfl (by rw [hpc]; exact hcl.symm) (fun d hd => if_neg hd) i05
        (fun p hp2 => by
          rw [b9, b53]
          by_cases e : p = q
          · rw [if_pos e, if_pos e]; exact ⟨rfl, Or.inr rfl⟩
          · rw [if_neg e, if_neg e]; exact ⟨(hL.1.1.2.2.1 p hp2).2.1, (hL.1.1.2.2.1 p hp2).2.2.1⟩)
        (fun p hp2 => by
          rw [b53]
          by_cases e : p = q
          · rw [if_pos e]; decide
          · rw [if_neg e]; exact hp2)
        (fun p hp2 => by rw [b9, if_neg (by omega)])
        (by rw [hpc]; exact ⟨by omega, hq, by rw [b53, if_pos rfl]; decide⟩)
        (fun _ => ⟨q, hq, rfl, by rw [b53, if_pos rfl]; decide⟩)
        b10 b20 (by rw [b11, if_pos rfl, hpc]) (fun d hd => by rw [b11, if_neg hd])
      rw [← hBB] at k7
      have hc4 : sPl (hPl h c q) 4 = sPl h 4 := if_neg (by omega)
      exact lwO.good (hPl h c q) (up K [30] 0 (nI (sPl h c))) _ (jn + 1) (nI (sPl h c)) ⟨by omega, by omega, by omega, by omega⟩ (Nat.le_refl _) (w_move l (setG g0 a) (xD h) (xD h) I K (xFh h) (xFh (hPl h c q)) n n _ _ 0 0 (nI c) (nI q) (nI (sPl h c)) trivial trivial W6) k7 (by rw [mW_20 _ _ _ (by decide)]; exact b23) (by rw [mW_no _ _ _ rfl]; exact b30) ⟨hV, by rw [hc4]; exact hL.2⟩
