/-! OUTCOMES: a case begins -/
def xz0 : xX := fun f k => if f = 0 ∧ k = 8 then -1 else 0
def xF0 : xX := fun f => if f = 0 then rK else r0
theorem rK_ne {k : Nat} (h : k ≠ 8) : rK k = 0 := by
  unfold rK
  rw [if_neg h]
  split
  · rfl
  · split <;> rfl
theorem xF0_nrm : nrm xF0 = xF0 := by
  funext f k
  unfold nrm
  split
  · rfl
  · rename_i e
    unfold xF0
    by_cases h0 : f = 0
    · rw [if_pos h0, rK_ne (fun z => e (Or.inl ⟨h0, by omega, by omega⟩))]
    · rw [if_neg h0]; rfl
theorem xF0_ch : xCh xF0 := fun _ => rfl
theorem xF0_new : sNew xF0 = mNw xz0 8 := by
  funext f k
  by_cases h0 : f = 0
  · subst h0
    by_cases h8 : k = 8
    · subst h8; rfl
    · have e : sNw2 xF0 8 0 k = 0 := by
        unfold sNw2
        rw [if_neg (fun z => absurd z.1 (by decide)), if_neg (fun z => absurd z.1 (by decide)), if_neg (fun z => by rcases z.1 with q | q <;> exact absurd q (by decide))]
        exact rK_ne h8
      have e2 : mNw xz0 8 0 k = 0 := by
        unfold mNw xz0
        rw [if_neg (fun z => absurd z.1 (by decide)), if_neg (fun z => h8 z.2)]
      rw [e2]
      unfold sNew up2
      split
      · rfl
      · rw [if_neg (fun z => h8 z.2)]
        split
        · rfl
        · split
          · rfl
          · exact e
  · have e : sNew xF0 f k = sNw2 xF0 8 f k := by
      unfold sNew
      rw [up2_f _ _ _ h0, up2_f _ _ _ h0, up2_f _ _ _ h0, up2_f _ _ _ h0]
    rw [e]
    unfold sNw2 mNw
    by_cases h2 : f = 2 ∧ k < 8
    · rw [if_neg (fun z => by omega), if_pos h2, if_pos h2]
    · rw [if_neg h2, if_neg h2]
      have e0 : xF0 f k = 0 := by unfold xF0; rw [if_neg h0]; rfl
      have e1 : xz0 f k = 0 := if_neg (fun z => h0 z.1)
      rw [e0, e1]
      split
      · rfl
      · split <;> rfl
theorem mW_z {I : xI} {c : Nat} (h0 : LC0 I c) (h1 : I [20] 21 = -1) : mW I c xz0 = I := by
  obtain ⟨z1, z2, z3, z4, z5, z6, z7, z8⟩ := h0
  funext id
  by_cases hm : mIs id = true
  · unfold mIs at hm
    split at hm
    · rename_i d
      by_cases q : d = c
      · subst q; rw [mW_r1, z1]; rfl
      · rw [mW_r1n _ _ q]
    · rename_i d
      by_cases q : d = c
      · subst q; rw [mW_r2, z2]; rfl
      · rw [mW_r2n _ _ q]
    · rename_i d
      by_cases q : d = c
      · subst q; rw [mW_r4, z3]; rfl
      · rw [mW_r4n _ _ q]
    · rename_i d
      by_cases q : d = c
      · subst q; rw [mW_r5, z4]; rfl
      · rw [mW_r5n _ _ q]
    · funext k
      by_cases q : k = c
      · subst q; rw [mW_c6, z5]; rfl
      · rw [mW_c6n _ _ q]
    · funext k
      by_cases q : k = c
      · subst q; rw [mW_c7, z6]; rfl
      · rw [mW_c7n _ _ q]
    · funext k
      by_cases q : k = c
      · subst q; rw [mW_c9, z7]; rfl
      · rw [mW_c9n _ _ q]
    · funext k
      by_cases q : k = c
      · subst q; rw [mW_c10, z8]; rfl
      · rw [mW_c10n _ _ q]
    · funext k
      by_cases q : k = 21
      · subst q; rw [mW_c8, h1]; rfl
      · rw [mW_20 _ _ _ q]
    · cases hm
  · rw [mW_no _ _ _ (by simpa using hm)]
theorem iBe_no (h : xS) (I : xI) (p : Nat) {id : List Nat} (h0 : id ≠ [0]) (h5 : id ≠ [5, p]) (h11 : ∀ f, id ≠ [11, sNc h, f]) : iBe h I p id = I id := by
  unfold iBe
  rw [up_id h5, up_id h0, upR_id (h11 5), upR_id (h11 4), upR_id (h11 3), upR_id (h11 2), upR_id (h11 1), upR_id (h11 0)]
theorem iBe_0 (h : xS) (I : xI) (p : Nat) : iBe h I p [0] = fun k => if k = 3 then nI (sNc h + 1) else I [0] k := by
  unfold iBe
  rw [up_id (by simp), up_row, upR_id (by simp), upR_id (by simp), upR_id (by simp), upR_id (by simp), upR_id (by simp), upR_id (by simp)]
theorem iBe_5 (h : xS) (I : xI) (p q k : Nat) : iBe h I p [5, q] k = if q = p ∧ k = 3 then 1 else I [5, q] k := by
  by_cases e : q = p
  · subst e
    unfold iBe
    rw [up_row, up_id (by simp), upR_id (by simp), upR_id (by simp), upR_id (by simp), upR_id (by simp), upR_id (by simp), upR_id (by simp)]
    by_cases e3 : k = 3
    · show (if k = 3 then _ else _) = _
      rw [if_pos e3, if_pos ⟨rfl, e3⟩]
    · show (if k = 3 then _ else _) = _
      rw [if_neg e3, if_neg (fun z => e3 z.2)]
  · rw [iBe_no _ _ _ (by simp) (by simpa using e) (by simp), if_neg (fun z => e z.1)]
theorem iBe_X {h : xS} {I : xI} {p : Nat} (hz : ∀ f, I [11, sNc h, f] = r0) : gX (iBe h I p) (sNc h) = xF0 := by
  funext f
  show iBe h I p [11, sNc h, f] = _
  unfold iBe xF0
  rw [up_id (by simp), up_id (by simp)]
  rcases (show f = 0 ∨ f = 1 ∨ f = 2 ∨ f = 3 ∨ f = 4 ∨ f = 5 ∨ 6 ≤ f by omega) with r | r | r | r | r | r | r
  · subst r; rw [upR_id (by simp), upR_id (by simp), upR_id (by simp), upR_id (by simp), upR_id (by simp), upR_at]; rfl
  · subst r; rw [upR_id (by simp), upR_id (by simp), upR_id (by simp), upR_id (by simp), upR_at]; rfl
  · subst r; rw [upR_id (by simp), upR_id (by simp), upR_id (by simp), upR_at]; rfl
  · subst r; rw [upR_id (by simp), upR_id (by simp), upR_at]; rfl
  · subst r; rw [upR_id (by simp), upR_at]; rfl
  · subst r; rw [upR_at]; rfl
  · rw [upR_id (by simp; omega), upR_id (by simp; omega), upR_id (by simp; omega), upR_id (by simp; omega), upR_id (by simp; omega), upR_id (by simp; omega), hz, if_neg (by omega)]
set_option maxHeartbeats 1000000 in
theorem o_begin {l : Launch} (hst : l.stackTraces = false) {g0 : xG} {a : List Nat → Nat} {h : xS} {I : xI} {n jn : Nat} (hL : LW h I jn) (hj512 : jn < 512) (x : Int32) : lwO l g0 a h I n jn yL_begin cL_begin 4 [(0, 9, 12, 19), (0, 9, 15, 13)] yX7_begin cX7_begin 4 FieldType.int [.int x] := by
  have hW := hL.1.1.1
  have hC := hL.1.2.1.1
  have h3 := hW.1
  have n4 := hC.1
  have hm := hL.1.2.1.2.1
  have hz := hL.1.1.2.1
  rcases sIn_cases (x := x) (q := sNp h) (by omega) with ⟨z1, z2⟩ | ⟨p, hp, rfl⟩
  · exact lwO.bad 1 0 (by decide) ⟨by omega, by omega, by omega, by omega⟩ (w_begin_eIO l (setG g0 a) (xD h) I (xFh h) n _ _ x trivial (t_X6_begin_p l hst (setG g0 a) h I n hW x z2)) (fun n' => c_X7_begin_p l (setG g0 a) h I n' (sNp h) h3 hz x z1)
  · obtain ⟨hA, hu9, hbu, -, -⟩ := hL.1.1.2.2.1 p hp
    have h8 := (hW.2.2 p hp).1
    have hs0 := hA.1
    have hs := hA.2
    by_cases he : sSz h p = 0
    · exact lwO.bad 2 0 (by decide) ⟨by omega, by omega, by omega, by omega⟩ (w_begin_eIS l (setG g0 a) (xD h) I (xFh h) n _ _ (nI p) trivial (t_X6_begin_e l hst (setG g0 a) h I n hW hC p hp he)) (fun n' => c_X7_begin_s l (setG g0 a) h I n' (sNp h) h3 hz p hp (hs0.trans (congrArg nI he)))
    have hs1 : ¬ I [24, 8] p = 0 := by rw [hs0]; exact fun z => he ((nI_eq (a := sSz h p) (b := 0) (by omega) (by omega)).mp z)
    by_cases hf : sNc h = 4
    · exact lwO.bad 2 0 (by decide) ⟨by omega, by omega, by omega, by omega⟩ (w_begin_eIS l (setG g0 a) (xD h) I (xFh h) n _ _ (nI p) trivial (t_X6_begin_f l hst (setG g0 a) h I n hW hC p hp (by omega) hf)) (fun n' => c_X7_begin_f l (setG g0 a) h I n' (sNp h) h3 hz p hp hs1 (hm.trans (congrArg nI hf)))
    have h4 : sNc h < 4 := by omega
    obtain ⟨Iz, hIz⟩ : ∃ z, z = sX I (sNc h) (fun _ => r0) := ⟨_, rfl⟩
    have ez : ∀ id, lvJ (sNc h) id = true → Iz id = I id := fun id hi => by
      rw [hIz]
      rcases sX_cases I (sNc h) (fun _ => r0) id with ⟨f, rfl, -⟩ | ⟨-, e⟩
      · exact absurd hi (by simp [lvJ])
      · exact e
    have ezx : ∀ f, Iz [11, sNc h, f] = r0 := fun f => by rw [hIz, sX_at]
    have Lz : LW h Iz jn := ⟨hL.1.zero (Nat.le_refl _) h4 ez, hL.2⟩
    have hWz := Lz.1.1.1
    have hCz := Lz.1.2.1.1
    have hAz := (Lz.1.1.2.2.1 p hp).1
    have hz3 := Lz.1.2.2.2.1.1
    obtain ⟨a', ha'⟩ : ∃ z, z = (aI (aI (aI (aI (aI (aI a [11, sNc h, 0] n) [11, sNc h, 1] (n + 1)) [11, sNc h, 2] (n + 2)) [11, sNc h, 3] (n + 3)) [11, sNc h, 4] (n + 4)) [11, sNc h, 5] (n + 5)) := ⟨_, rfl⟩
    have a0 : a' [11, sNc h, 0] = n := by rw [ha', aI_ne (by simp), aI_ne (by simp), aI_ne (by simp), aI_ne (by simp), aI_ne (by simp), aI_at]
    have a1 : a' [11, sNc h, 1] = n + 1 := by rw [ha', aI_ne (by simp), aI_ne (by simp), aI_ne (by simp), aI_ne (by simp), aI_at]
    have a2 : a' [11, sNc h, 2] = n + 2 := by rw [ha', aI_ne (by simp), aI_ne (by simp), aI_ne (by simp), aI_at]
    have a3 : a' [11, sNc h, 3] = n + 3 := by rw [ha', aI_ne (by simp), aI_ne (by simp), aI_at]
    have a4 : a' [11, sNc h, 4] = n + 4 := by rw [ha', aI_ne (by simp), aI_at]
    have a5 : a' [11, sNc h, 5] = n + 5 := by rw [ha', aI_at]
    have ae : ∀ id, ¬ (id = [11, sNc h, 0] ∨ id = [11, sNc h, 1] ∨ id = [11, sNc h, 2] ∨ id = [11, sNc h, 3] ∨ id = [11, sNc h, 4] ∨ id = [11, sNc h, 5]) → a' id = a id := fun id w => by
      rw [not_or, not_or, not_or, not_or, not_or] at w
      rw [ha', aI_ne w.2.2.2.2.2, aI_ne w.2.2.2.2.1, aI_ne w.2.2.2.1, aI_ne w.2.2.1, aI_ne w.2.1, aI_ne w.1]
    have nx : ∀ f, ¬ xD h [11, sNc h, f] := fun f z => by
      rcases z.1 with q | q
      · exact Nat.lt_irrefl _ q
      · exact hf q
    have hn : ∀ id, xD h id → ¬ (id = [11, sNc h, 0] ∨ id = [11, sNc h, 1] ∨ id = [11, sNc h, 2] ∨ id = [11, sNc h, 3] ∨ id = [11, sNc h, 4] ∨ id = [11, sNc h, 5]) := by
      rintro id hi (rfl | rfl | rfl | rfl | rfl | rfl) <;> exact nx _ hi
    have W6 := c_X6_begin l (setG g0 a') h Iz n hWz hCz p hp he h4 jn hj512 hz3 a0 a1 a2 a3 a4 a5
    rw [iBe_X ezx] at W6
    obtain ⟨K, hK⟩ : ∃ z, z = kI (hBe h p) (iBe h Iz p) jn (sNc h) 0 (nI p) 0 xF0 := ⟨_, rfl⟩
    rw [← hK] at W6
    have kR : ∀ id, id ≠ [30] → id ≠ [3] → (∀ k, id ≠ [4, k]) → (∀ f, id ≠ [11, sNc h, f]) → up K [30] 0 (nI (sNc h)) id = iBe h Iz p id := fun id b0 b1 b2 b3 => by
      rw [up_id b0, hK, kI_no _ _ _ _ _ _ _ _ b1 b2 b3]
    have kk : ∀ id, kK id = true → id ≠ [0] → up K [30] 0 (nI (sNc h)) id = Iz id := fun id hi b => by
      rw [kR id (by rintro rfl; cases hi) (by rintro rfl; cases hi) (by rintro k rfl; cases hi) (by rintro k rfl; cases hi), iBe_no _ _ _ b (by rintro rfl; cases hi) (by rintro k rfl; cases hi)]
    have k5 : ∀ q k, k ≠ 3 → up K [30] 0 (nI (sNc h)) [5, q] k = Iz [5, q] k := fun q k hk => by
      rw [kR _ (by simp) (by simp) (by simp) (by simp), iBe_5, if_neg (fun z => hk z.2)]
    have m1 : up K [30] 0 (nI (sNc h)) [20] 20 = nI (sNc h) := by rw [kk _ rfl (by simp)]; exact Lz.1.2.1.2.1
    have m2 : up K [30] 0 (nI (sNc h)) [20] 10 = nI (sNp h) := by rw [kk _ rfl (by simp)]; exact Lz.1.1.2.1
    have m21 : up K [30] 0 (nI (sNc h)) [20] 21 = -1 := by rw [kk _ rfl (by simp)]; exact Lz.1.2.1.2.2.1
    have e1 : vP (up K [30] 0 (nI (sNc h))) p = vP Iz p := funext fun j => kk _ rfl (by simp)
    have e2 : vC (up K [30] 0 (nI (sNc h))) p = vC Iz p := funext fun j => funext fun w => funext fun k => kk _ rfl (by simp)
    have mA' : mA h (up K [30] 0 (nI (sNc h))) p := by
      have e22 : ∀ a b, up K [30] 0 (nI (sNc h)) [22, a, b] = Iz [22, a, b] := fun a b => kk _ rfl (by simp)
      have e23 : ∀ a b d, up K [30] 0 (nI (sNc h)) [23, a, b, d] = Iz [23, a, b, d] := fun a b d => kk _ rfl (by simp)
      have e7 : ∀ p j, up K [30] 0 (nI (sNc h)) [7, p, j] = Iz [7, p, j] := fun p j => kk _ rfl (by simp)
      have e10 : ∀ p j w k, up K [30] 0 (nI (sNc h)) [10, p, j, w, k] = Iz [10, p, j, w, k] := fun p j w k => kk _ rfl (by simp)
      have e24 : up K [30] 0 (nI (sNc h)) [24, 8] = Iz [24, 8] := kk _ rfl (by simp)
      unfold mA mS at hAz ⊢
      simp only [e22, e23, e7, e10, e24]
      exact hAz
    have xW' : xWp h (up K [30] 0 (nI (sNc h))) p := by
      have hWp := hWz.2.2 p hp
      have e7 : ∀ p j, up K [30] 0 (nI (sNc h)) [7, p, j] = Iz [7, p, j] := fun p j => kk _ rfl (by simp)
      have e10 : ∀ p j w k, up K [30] 0 (nI (sNc h)) [10, p, j, w, k] = Iz [10, p, j, w, k] := fun p j w k => kk _ rfl (by simp)
      have e8 : ∀ a b d, up K [30] 0 (nI (sNc h)) [8, a, b, d] = Iz [8, a, b, d] := fun a b d => kk _ rfl (by simp)
      unfold xWp xWs at hWp ⊢
      simp only [e7, e10, e8, k5 p 0 (by decide), k5 p 2 (by decide)]
      exact hWp
    have hC0 : LC0 (up K [30] 0 (nI (sNc h))) (sNc h) := by
      have q := Lz.1.2.1.2.2.2.2 (sNc h) (Nat.le_refl _) h4
      unfold LC0 at q ⊢
      rw [kk _ rfl (by simp), kk _ rfl (by simp), kk _ rfl (by simp), kk _ rfl (by simp), kk _ rfl (by simp), kk _ rfl (by simp), kk _ rfl (by simp), kk _ rfl (by simp)]
      exact q
    have k7 := c_X7_begin l (setG g0 a') (hBe h p) (up K [30] 0 (nI (sNc h))) (n + 1 + 1 + 1 + 1 + 1 + 1) (sNc h) xz0 h4 m1 (sNp h) h3 m2 p hp mA' xW' he
    rw [mW_z hC0 m21, e1, e2] at k7
    have hcl : (nI p).toNatClampNeg = p := nI_clamp (by omega)
    have i1 : vP (iBe h Iz p) p = vP Iz p := funext fun j => iBe_no _ _ _ (by simp) (by simp) (by simp)
    have i2 : vC (iBe h Iz p) p = vC Iz p := funext fun j => funext fun w => funext fun k => iBe_no _ _ _ (by simp) (by simp) (by simp)
    obtain ⟨X', hX⟩ : ∃ z, z = sTail (vP Iz p) (vC Iz p) (sCn h p) (sSz h p) (mNw xz0 8) := ⟨_, rfl⟩
    have hX' : X' = (sHap h Iz 0 (nI p) 0 (p, xF0)).2 := by
      show _ = sTl h Iz (nI p).toNatClampNeg (sNew xF0)
      rw [hcl, xF0_new, hX]
    have hXk : (sHap (hBe h p) (iBe h Iz p) 0 (nI p) 0 (sPl (hBe h p) (sNc h), xF0)).2 = X' := by
      show sTl (hBe h p) (iBe h Iz p) (nI p).toNatClampNeg (sNew xF0) = _
      rw [hcl, xF0_new, hX]
      unfold sTl
      rw [i1, i2]
      rfl
    have k7' : xM l yX7_begin (xws yX7_begin cX7_begin 4 (some FieldType.int)) 19 437 (setG g0 a') [.ref (ga (setG g0 a') [20]), .int (nI p)] (xR (setG g0 a') (xD (hBe h p)) (up K [30] 0 (nI (sNc h))) (xFh (hBe h p)) (n + 1 + 1 + 1 + 1 + 1 + 1)) (some (.int (nI (sNc h)))) (xR (setG g0 a') (xD (hBe h p)) (mW (up (up (up (up (up K [30] 0 (nI (sNc h))) [20] 23 0) [20] 20 (nI (sNc h + 1))) [24, 11] (sNc h) (nI p)) [24, 9] p 1) (sNc h) X') (xFh (hBe h p)) (n + 1 + 1 + 1 + 1 + 1 + 1)) 0 0 := by
      rw [hX]; exact k7
    obtain ⟨BB, hBB⟩ : ∃ z, z = up (up (up (up (up K [30] 0 (nI (sNc h))) [20] 23 0) [20] 20 (nI (sNc h + 1))) [24, 11] (sNc h) (nI p)) [24, 9] p 1 := ⟨_, rfl⟩
    rw [← hBB] at k7'
    have bI : ∀ id, id ≠ [20] → id ≠ [24, 11] → id ≠ [24, 9] → BB id = up K [30] 0 (nI (sNc h)) id := fun id b1 b2 b3 => by rw [hBB, up_id b3, up_id b2, up_id b1, up_id b1]
    have bR : ∀ id, id ≠ [20] → id ≠ [24, 11] → id ≠ [24, 9] → id ≠ [30] → id ≠ [3] → (∀ k, id ≠ [4, k]) → (∀ f, id ≠ [11, sNc h, f]) → BB id = iBe h Iz p id := fun id b1 b2 b3 b4 b5 b6 b7 => by rw [bI id b1 b2 b3, kR id b4 b5 b6 b7]
    have b20 : ∀ k, k ≠ 23 → k ≠ 20 → BB [20] k = Iz [20] k := fun k b1 b2 => by rw [hBB, up_id (by simp), up_id (by simp), up_ne b2, up_ne b1, kk _ rfl (by simp)]
    have b2020 : BB [20] 20 = nI (sNc h + 1) := by rw [hBB, up_id (by simp), up_id (by simp), up_at]
    have b2023 : BB [20] 23 = 0 := by rw [hBB, up_id (by simp), up_id (by simp), up_ne (by decide), up_at]
    have b9 : ∀ q, BB [24, 9] q = if q = p then 1 else Iz [24, 9] q := fun q => by rw [hBB, up_row, up_id (by simp), up_id (by simp), up_id (by simp), kk _ rfl (by simp)]
    have b11 : ∀ q, BB [24, 11] q = if q = sNc h then nI p else Iz [24, 11] q := fun q => by rw [hBB, up_id (by simp), up_row, up_id (by simp), up_id (by simp), kk _ rfl (by simp)]
    have b30 : BB [30] 0 = nI (sNc h) := by rw [bI _ (by simp) (by simp) (by simp), up_at]
    have b5 : ∀ q k, BB [5, q] k = if q = p ∧ k = 3 then 1 else Iz [5, q] k := fun q k => by rw [bR _ (by simp) (by simp) (by simp) (by simp) (by simp) (by simp) (by simp), iBe_5]
    have b0 : ∀ k, BB [0] k = if k = 3 then nI (sNc h + 1) else Iz [0] k := fun k => by rw [bR _ (by simp) (by simp) (by simp) (by simp) (by simp) (by simp) (by simp), iBe_0]
    have bX : ∀ f, BB [11, sNc h, f] = X' f := fun f => by
      rw [bI _ (by simp) (by simp) (by simp), up_id (by simp), hK]
      unfold kI
      rw [sX_at, hXk]
    have bXd : ∀ d, d ≠ sNc h → ∀ f, BB [11, d, f] = Iz [11, d, f] := fun d hd f => by
      rw [bR _ (by simp) (by simp) (by simp) (by simp) (by simp) (by simp) (by simp [hd]), iBe_no _ _ _ (by simp) (by simp) (by simp [hd])]
    have b4 : ∀ k, BB [4, k] = sJ (iBe h Iz p) jn (nI (sNc h)) (nI 0) (nI p) 0 [4, k] := fun k => by
      rw [bI _ (by simp) (by simp) (by simp), up_id (by simp), hK]
      unfold kI
      rcases sX_cases (sJ (iBe h Iz p) jn (nI (sNc h)) (nI 0) (nI p) 0) (sNc h) (sHap (hBe h p) (iBe h Iz p) 0 (nI p) 0 (sPl (hBe h p) (sNc h), xF0)).2 [4, k] with ⟨f, e, -⟩ | ⟨-, e⟩
      · simp at e
      · exact e
    have b34 : BB [3] 4 = nI (jn + 1) := by
      rw [bI _ (by simp) (by simp) (by simp), up_id (by simp), hK]
      unfold kI
      rcases sX_cases (sJ (iBe h Iz p) jn (nI (sNc h)) (nI 0) (nI p) 0) (sNc h) (sHap (hBe h p) (iBe h Iz p) 0 (nI p) 0 (sPl (hBe h p) (sNc h), xF0)).2 [3] with ⟨f, e, -⟩ | ⟨-, e⟩
      · simp at e
      · rw [e]; exact sJ_3 _ _ _ _ _ _
    have i4 : ∀ k, iBe h Iz p [4, k] = Iz [4, k] := fun k => iBe_no _ _ _ (by simp) (by simp) (by simp)
    have gx : gX (mW BB (sNc h) X') (sNc h) = X' := funext fun f => by
      show mW BB (sNc h) X' [11, sNc h, f] = X' f
      rw [mW_no _ _ _ rfl, bX]
    have hpc : sPl (hBe h p) (sNc h) = p := if_pos rfl
    have hV : LV (hBe h p) (mW BB (sNc h) X') (jn + 1) := by
      refine LV.begin (h' := hBe h p) (Xf := xF0) Lz.1 hj512 rfl h4 hp (by omega) xF0_nrm xF0_ch rfl rfl rfl rfl hpc (fun d hd => if_neg hd) (fun id hi => ?_) (fun q k hk => ?_) (fun q hq => ?_) (fun q hq => ?_) ?_ (fun q hq => ?_) ?_ ?_ ?_ ?_ ?_ ?_ (fun r hr => ?_) ?_ (gx.trans hX') (fun d hd => funext fun f => ?_) ?_ ?_ (fun k => rfl) (fun d hd => ?_)
      · rw [mW_no _ _ _ (pL0_mIs hi), bR id (by rintro rfl; cases hi) (by rintro rfl; cases hi) (by rintro rfl; cases hi) (by rintro rfl; cases hi) (by rintro rfl; cases hi) (by rintro k rfl; cases hi) (by rintro k rfl; cases hi), iBe_no _ _ _ (by rintro rfl; cases hi) (by rintro rfl; cases hi) (by rintro k rfl; cases hi)]
      · rw [mW_no _ _ _ rfl, b5, if_neg (fun z => hk z.2)]
      · rw [mW_no _ _ _ rfl, mW_no _ _ _ rfl, b9, b5]
        by_cases e : q = p
        · rw [if_pos e, if_pos ⟨e, rfl⟩]; exact ⟨rfl, Or.inr rfl⟩
        · rw [if_neg e, if_neg (fun z => e z.1)]; exact ⟨(Lz.1.1.2.2.1 q hq).2.1, (Lz.1.1.2.2.1 q hq).2.2.1⟩
      · rw [mW_no _ _ _ rfl, b5]
        by_cases e : q = p
        · rw [if_pos ⟨e, rfl⟩]; decide
        · rw [if_neg (fun z => e z.1)]; exact hq
      · rw [mW_no _ _ _ rfl, b5, if_pos ⟨rfl, rfl⟩]; decide
      · rw [mW_no _ _ _ rfl, b9, if_neg (by omega)]
      · rw [mW_no _ _ _ rfl, b0, if_neg (by decide)]
      · rw [mW_no _ _ _ rfl, b0, if_pos rfl]
      · rw [mW_20 _ _ _ (by decide), b20 _ (by decide) (by decide)]
      · rw [mW_20 _ _ _ (by decide), b2020]
      · rw [mW_c8, hX']; exact sHap_8 _ _ _ _ _ _
      · rw [mW_no _ _ _ rfl, b34]
      · obtain ⟨q1, q2, q3, q4⟩ := sJ_4 (iBe h Iz p) jn (nI (sNc h)) (nI 0) (nI p) 0 r
        rw [if_neg (by omega), i4] at q1 q2 q3 q4
        rw [mW_no _ _ _ rfl, mW_no _ _ _ rfl, mW_no _ _ _ rfl, mW_no _ _ _ rfl, b4, b4, b4, b4]
        exact ⟨q1, q2, q3, q4⟩
      · obtain ⟨q1, q2, q3, q4⟩ := sJ_4 (iBe h Iz p) jn (nI (sNc h)) (nI 0) (nI p) 0 jn
        rw [if_pos rfl] at q1 q2 q3 q4
        rw [mW_no _ _ _ rfl, mW_no _ _ _ rfl, mW_no _ _ _ rfl, b4, b4, b4]
        exact ⟨q1, q2, q3⟩
      · show mW BB (sNc h) X' [11, d, f] = Iz [11, d, f]
        rw [mW_no _ _ _ rfl, bXd d hd]
      · refine ⟨by rw [mW_r1, gx], by rw [mW_r2, gx], by rw [mW_r4, gx], by rw [mW_r5, gx], by rw [mW_c6, gx], by rw [mW_c7, gx], by rw [mW_c9, gx], by rw [mW_c10, gx]⟩
      · rw [mW_no _ _ _ rfl, b11, if_pos rfl]
      · have R := fun id b1 b2 b3 b4 b5 b6 b7 b8 b9 => (bR id b1 b2 b3 b4 b5 b6 b7).trans (iBe_no h Iz p b8 b9 b7)
        rw [mW_r1n _ _ hd, mW_r2n _ _ hd, mW_r4n _ _ hd, mW_r5n _ _ hd, mW_c6n _ _ hd, mW_c7n _ _ hd, mW_c9n _ _ hd, mW_c10n _ _ hd, mW_no _ _ _ rfl, b11, if_neg hd]
        refine ⟨R _ ?_ ?_ ?_ ?_ ?_ ?_ ?_ ?_ ?_, R _ ?_ ?_ ?_ ?_ ?_ ?_ ?_ ?_ ?_, R _ ?_ ?_ ?_ ?_ ?_ ?_ ?_ ?_ ?_, R _ ?_ ?_ ?_ ?_ ?_ ?_ ?_ ?_ ?_, congrFun (R [24, 17] ?_ ?_ ?_ ?_ ?_ ?_ ?_ ?_ ?_) d, congrFun (R [24, 13] ?_ ?_ ?_ ?_ ?_ ?_ ?_ ?_ ?_) d, congrFun (R [24, 18] ?_ ?_ ?_ ?_ ?_ ?_ ?_ ?_ ?_) d, congrFun (R [24, 19] ?_ ?_ ?_ ?_ ?_ ?_ ?_ ?_ ?_) d, rfl⟩ <;> simp
    have hc4 : sPl (hBe h p) 4 = sPl h 4 := if_neg (by omega)
    exact Or.inr ⟨a', hBe h p, Iz, up K [30] 0 (nI (sNc h)), mW BB (sNc h) X', n + 1 + 1 + 1 + 1 + 1 + 1, jn + 1, nI (sNc h), _, _, _, _, 6, 47, fun id hi => ae id (hn id hi), ⟨by omega, by omega, by omega, by omega, by omega, by omega, by omega⟩, fun H hH => (hL.new _ ae hn (fun j => by simp) (fun f => by simp) (fun x y z => by simp) hH).congr (g' := setG g0 a') (fun _ z => z) (fun id hi => ez id (by
        unfold lvJ
        split
        · rename_i d f
          by_cases e : d = sNc h
          · subst e; exact absurd hi (nx _)
          · exact decide_eq_true e
        · rfl)) (fun _ _ => rfl),
      w_begin l (setG g0 a') (xD h) (xD (hBe h p)) Iz K (xFh h) (xFh (hBe h p)) n (n + 1 + 1 + 1 + 1 + 1 + 1) _ _ 6 47 (nI p) (nI (sNc h)) trivial trivial W6, k7', by rw [mW_20 _ _ _ (by decide)]; exact b2023, by rw [mW_no _ _ _ rfl]; exact b30, fun z => by (cases z), hV, by rw [hc4]; exact hL.2⟩
