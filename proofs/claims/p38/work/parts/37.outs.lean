/-! OUTCOMES: a call of the law's own methods is refused, and nothing changes; or answered, and what holds goes on holding -/
def lO (l : Launch) (g0 : xG) (a : List Nat → Nat) (h : xS) (I : xI) (n jn : Nat) (yL : MethodName) (cL : ByteArray) (mL : Nat) (hh : List (Nat × Nat × Nat × Nat)) (av : List Value) (R : Int32 → xS → xI → Prop) : Prop :=
  (∃ (k : Int32) (fr lo : Nat), k < -1000 ∧ (fr ≤ 9 ∧ lo ≤ 180) ∧ xMl l yL cL mL (some .int) hh fr lo (setG g0 a) (.ref (a [0]) :: av) (xR (setG g0 a) (xD h) I (xFh h) n) (some (.int k)) (xG_ (setG g0 a) (xD h) I (xFh h) n) 1 6) ∨
  ∃ (a' : List Nat → Nat) (h1 : xS) (Iz J : xI) (n1 jn' : Nat) (v : Int32) (fr lo mc ms : Nat), (∀ id, xD h id → a' id = a id) ∧ (fr ≤ 9 ∧ lo ≤ 180 ∧ mc ≤ 6 ∧ ms ≤ 47 ∧ jn' ≤ jn + 1) ∧ -1000 < v ∧ (∀ H, xR (setG g0 a) (xD h) I (xFh h) n H → xR (setG g0 a') (xD h) Iz (xFh h) n H) ∧
    xMl l yL cL mL (some .int) hh fr lo (setG g0 a') (.ref (a' [0]) :: av) (xR (setG g0 a') (xD h) Iz (xFh h) n) (some (.int v)) (xR (setG g0 a') (xD h1) J (xFh h1) n1) mc ms ∧ LW h1 J jn' ∧ sOw h1 = sOw h ∧ R v h1 J
theorem lO.bad {l : Launch} {g0 : xG} {a : List Nat → Nat} {h : xS} {I : xI} {n jn : Nat} {yL : MethodName} {cL : ByteArray} {mL : Nat} {hh : List (Nat × Nat × Nat × Nat)} {av : List Value} {R : Int32 → xS → xI → Prop} {k : Int32} {fr lo : Nat} (hk : k < -1000) (hb : fr ≤ 9 ∧ lo ≤ 180)
    (hw : xMl l yL cL mL (some .int) hh fr lo (setG g0 a) (.ref (a [0]) :: av) (xR (setG g0 a) (xD h) I (xFh h) n) (some (.int k)) (xG_ (setG g0 a) (xD h) I (xFh h) n) 1 6) : lO l g0 a h I n jn yL cL mL hh av R := Or.inl ⟨k, fr, lo, hk, hb, hw⟩
theorem lO.good {l : Launch} {g0 : xG} {a : List Nat → Nat} {h : xS} {I : xI} {n jn : Nat} {yL : MethodName} {cL : ByteArray} {mL : Nat} {hh : List (Nat × Nat × Nat × Nat)} {av : List Value} {R : Int32 → xS → xI → Prop} {h1 : xS} {J : xI} {jn' : Nat} {v : Int32} {fr lo : Nat} (hb : fr ≤ 9 ∧ lo ≤ 180) (hj : jn' ≤ jn + 1) (hv : -1000 < v)
    (hw : xMl l yL cL mL (some .int) hh fr lo (setG g0 a) (.ref (a [0]) :: av) (xR (setG g0 a) (xD h) I (xFh h) n) (some (.int v)) (xR (setG g0 a) (xD h1) J (xFh h1) n) 0 0) (hL : LW h1 J jn') (ho : sOw h1 = sOw h) (hR : R v h1 J) : lO l g0 a h I n jn yL cL mL hh av R :=
  Or.inr ⟨a, h1, I, J, n, jn', v, fr, lo, 0, 0, fun _ _ => rfl, ⟨hb.1, hb.2, by omega, by omega, hj⟩, hv, fun _ z => z, hw, hL, ho, hR⟩
theorem big_nI {q : Nat} (h : q < 2 ^ 31) : -1000 < nI q := by
  rw [Int32.lt_iff_toInt_lt, nI_toInt h, show (-1000 : Int32).toInt = -1000 from by decide]; omega
theorem big_bo {v : Int32} (h : sBo v) : -1000 < v := by rcases h with rfl | rfl <;> decide
theorem big_to {v : Int32} (h : -99 ≤ v.toInt) : -1000 < v := by
  rw [Int32.lt_iff_toInt_lt, show (-1000 : Int32).toInt = -1000 from by decide]; omega
abbrev tR : Int32 → xS → xI → Prop := fun _ _ _ => True
set_option maxHeartbeats 1000000 in
theorem o_plan {l : Launch} (hst : l.stackTraces = false) {g0 : xG} {a : List Nat → Nat} {h : xS} {I : xI} {n jn : Nat} (hL : LW h I jn) : lO l g0 a h I n jn yL_plan cL_plan 2 [(0, 4, 5, 13)] [] tR := by
  have hW := hL.1.1.1
  have hC := hL.1.2.1.1
  have hn4 := hL.n
  by_cases q : sNp h = 3
  · exact lO.bad (by decide) ⟨by omega, by omega⟩ (w_plan_eIS l (setG g0 a) (xD h) I (xFh h) n _ _ trivial (t_X6_addPlan_f l hst (setG g0 a) h I n hW q))
  · have hq : sNp h < 3 := by omega
    obtain ⟨a', ha'⟩ : ∃ z, z = aI (aI a [5, sNp h] n) [6, sNp h] (n + 1) := ⟨_, rfl⟩
    have a0 : a' [5, sNp h] = n := by rw [ha', aI_ne (by simp), aI_at]
    have a1 : a' [6, sNp h] = n + 1 := by rw [ha', aI_at]
    have ae : ∀ id, ¬ (id = [5, sNp h] ∨ id = [6, sNp h]) → a' id = a id := fun id z => by rw [ha', aI_ne (fun e => z (Or.inr e)), aI_ne (fun e => z (Or.inl e))]
    have hn : ∀ id, xD h id → ¬ (id = [5, sNp h] ∨ id = [6, sNp h]) := by
      rintro id hi (rfl | rfl)
      · rcases hi with z | z
        · exact Nat.lt_irrefl _ z
        · exact q z
      · rcases hi with z | z
        · exact Nat.lt_irrefl _ z
        · exact q z
    have W6 := c_X6_addPlan l (setG g0 a') h I n hW hq a0 a1
    exact Or.inr ⟨a', hPn h, I, iPn h I, n + 1 + 1, jn, nI (sNp h), _, _, 2, 12, fun id hi => ae id (hn id hi), ⟨by omega, by omega, by omega, by omega, by omega⟩, big_nI (by omega), fun H hH => hL.new _ ae hn (fun j => by simp) hH, w_plan l (setG g0 a') (xD h) I (xFh h) n _ _ 2 12 2 12 _ _ _ trivial ⟨Nat.le_refl _, Nat.le_refl _⟩ (fun _ z => z) W6, ⟨hL.1.addPlan hq, hL.2.imp (fun z => Nat.lt_succ_of_lt z) (fun z => z)⟩, rfl, trivial⟩
set_option maxHeartbeats 1000000 in
theorem o_step {l : Launch} (hst : l.stackTraces = false) {g0 : xG} {a : List Nat → Nat} {h : xS} {I : xI} {n jn : Nat} (hL : LW h I jn) (x y z : Int32) : lO l g0 a h I n jn yL_step cL_step 5 [(0, 7, 8, 19), (0, 7, 14, 21), (0, 7, 20, 13)] [.int x, .int y, .int z] tR := by
  have hW := hL.1.1.1
  have hC := hL.1.2.1.1
  have hn4 := hL.n
  rcases sIn_cases (x := x) (q := sNp h) (by omega) with ⟨z1, z2⟩ | ⟨p, hp, rfl⟩
  · exact lO.bad (by decide) ⟨by omega, by omega⟩ (w_step_eIO l (setG g0 a) (xD h) I (xFh h) n _ _ x y z trivial (t_X6_addStep_p l hst (setG g0 a) h I n hW x z2 y z))
  · have h8 := hn4.2.2.1 p hp
    have hY : (¬ z = -1 ∧ (z < 0 ∨ nI (sSz h p) ≤ z)) ∨ (∃ j : Nat, j < sSz h p ∧ z = nI j ∧ ¬ I [7, p, j] 0 = 115) ∨ (z = -1 ∨ ∃ j : Nat, j < sSz h p ∧ z = nI j ∧ I [7, p, j] 0 = 115) := by
      by_cases e : z = -1
      · exact Or.inr (Or.inr (Or.inl e))
      · rcases sIn_cases (x := z) (q := sSz h p) (by omega) with ⟨z1, z2⟩ | ⟨j, hj, rfl⟩
        · exact Or.inl ⟨e, z2⟩
        · by_cases q : I [7, p, j] 0 = 115
          · exact Or.inr (Or.inr (Or.inr ⟨j, hj, rfl, q⟩))
          · exact Or.inr (Or.inl ⟨j, hj, rfl, q⟩)
    by_cases k1 : y = 115 ∨ y = 116 ∨ y = 109
    · rcases hY with ⟨e, z2⟩ | ⟨j, hj, rfl, q⟩ | hY
      · exact lO.bad (by decide) ⟨by omega, by omega⟩ (w_step_eIA l (setG g0 a) (xD h) I (xFh h) n _ _ (nI p) y z trivial (t_X6_addStep_q l hst (setG g0 a) h I n hW p hp y k1 z e z2))
      · exact lO.bad (by decide) ⟨by omega, by omega⟩ (w_step_eIA l (setG g0 a) (xD h) I (xFh h) n _ _ (nI p) y (nI j) trivial (t_X6_addStep_r l hst (setG g0 a) h I n hW p hp y k1 j hj q))
      · by_cases hu : I [5, p] 3 = 0
        · by_cases hf : sSz h p = 8
          · rcases hY with rfl | ⟨j, hj, rfl, q⟩
            · exact lO.bad (by decide) ⟨by omega, by omega⟩ (w_step_eIS l (setG g0 a) (xD h) I (xFh h) n _ _ (nI p) y (-1) trivial (t_X6_addStep_fn l hst (setG g0 a) h I n hW p hp y k1 hu hf))
            · exact lO.bad (by decide) ⟨by omega, by omega⟩ (w_step_eIS l (setG g0 a) (xD h) I (xFh h) n _ _ (nI p) y (nI j) trivial (t_X6_addStep_ft l hst (setG g0 a) h I n hW p hp y k1 j hj q hu hf))
          · have h8' : sSz h p < 8 := by omega
            obtain ⟨a', ha'⟩ : ∃ w, w = aI (aI (aI (aI (aI a [7, p, sSz h p] n) [8, p, sSz h p, 0] (n + 1)) [9, p, sSz h p, 0] (n + 2)) [8, p, sSz h p, 1] (n + 3)) [9, p, sSz h p, 1] (n + 4) := ⟨_, rfl⟩
            have a0 : a' [7, p, sSz h p] = n := by rw [ha', aI_ne (by simp), aI_ne (by simp), aI_ne (by simp), aI_ne (by simp), aI_at]
            have a1 : a' [8, p, sSz h p, 0] = n + 1 := by rw [ha', aI_ne (by simp), aI_ne (by simp), aI_ne (by simp), aI_at]
            have a2 : a' [9, p, sSz h p, 0] = n + 2 := by rw [ha', aI_ne (by simp), aI_ne (by simp), aI_at]
            have a3 : a' [8, p, sSz h p, 1] = n + 3 := by rw [ha', aI_ne (by simp), aI_at]
            have a4 : a' [9, p, sSz h p, 1] = n + 4 := by rw [ha', aI_at]
            have ae : ∀ id, ¬ (id = [7, p, sSz h p] ∨ id = [8, p, sSz h p, 0] ∨ id = [9, p, sSz h p, 0] ∨ id = [8, p, sSz h p, 1] ∨ id = [9, p, sSz h p, 1]) → a' id = a id := fun id w => by
              rw [not_or, not_or, not_or, not_or] at w
              rw [ha', aI_ne w.2.2.2.2, aI_ne w.2.2.2.1, aI_ne w.2.2.1, aI_ne w.2.1, aI_ne w.1]
            have hn : ∀ id, xD h id → ¬ (id = [7, p, sSz h p] ∨ id = [8, p, sSz h p, 0] ∨ id = [9, p, sSz h p, 0] ∨ id = [8, p, sSz h p, 1] ∨ id = [9, p, sSz h p, 1]) := by
              rintro id hi (rfl | rfl | rfl | rfl | rfl)
              · exact Nat.lt_irrefl _ hi.2
              · exact Nat.lt_irrefl _ hi.2.1
              · exact Nat.lt_irrefl _ hi.2.1
              · exact Nat.lt_irrefl _ hi.2.1
              · exact Nat.lt_irrefl _ hi.2.1
            have hp3 : p ≠ 3 := by omega
            have W6 : xM l yX6_addStep (xws yX6_addStep cX6_addStep 5 (some FieldType.int)) 3 55 (setG g0 a') [.ref (ga (setG g0 a') [0]), .int (nI p), .int y, .int z] (xR (setG g0 a') (xD h) I (xFh h) n) (some (.int (nI (sSz h p)))) (xR (setG g0 a') (xD (hSt h p)) (iSt h I p y z) (xFh (hSt h p)) (n + 1 + 1 + 1 + 1 + 1)) 5 17 := by
              rcases hY with rfl | ⟨j, hj, rfl, q⟩
              · exact c_X6_addStep_0 l (setG g0 a') h I n hW p hp hu h8' y k1 a0 a1 a2 a3 a4
              · exact c_X6_addStep_1 l (setG g0 a') h I n hW p hp hu h8' y k1 j hj q a0 a1 a2 a3 a4
            exact Or.inr ⟨a', hSt h p, I, iSt h I p y z, n + 1 + 1 + 1 + 1 + 1, jn, nI (sSz h p), _, _, 5, 17, fun id hi => ae id (hn id hi), ⟨by omega, by omega, by omega, by omega, by omega⟩, big_nI (by omega), fun H hH => hL.new _ ae hn (fun j => by simp [Ne.symm hp3]) hH, w_step l (setG g0 a') (xD h) I (xFh h) n _ _ 5 17 5 17 (nI p) y z _ _ _ trivial ⟨Nat.le_refl _, Nat.le_refl _⟩ (fun _ z => z) W6, ⟨hL.1.addStep hp hu h8' k1 hY, hL.2⟩, rfl, trivial⟩
        · rcases hY with rfl | ⟨j, hj, rfl, q⟩
          · exact lO.bad (by decide) ⟨by omega, by omega⟩ (w_step_eIS l (setG g0 a) (xD h) I (xFh h) n _ _ (nI p) y (-1) trivial (t_X6_addStep_un l hst (setG g0 a) h I n hW p hp y k1 hu))
          · exact lO.bad (by decide) ⟨by omega, by omega⟩ (w_step_eIS l (setG g0 a) (xD h) I (xFh h) n _ _ (nI p) y (nI j) trivial (t_X6_addStep_ut l hst (setG g0 a) h I n hW p hp y k1 j hj q hu))
    · rw [not_or, not_or] at k1
      exact lO.bad (by decide) ⟨by omega, by omega⟩ (w_step_eIA l (setG g0 a) (xD h) I (xFh h) n _ _ (nI p) y z trivial (t_X6_addStep_k l hst (setG g0 a) h I n hW p hp y z k1.1 k1.2.1 k1.2.2))
set_option maxHeartbeats 1000000 in
theorem o_condition1 {l : Launch} (hst : l.stackTraces = false) {g0 : xG} {a : List Nat → Nat} {h : xS} {I : xI} {n jn : Nat} (hL : LW h I jn) (x y so : Int32) (z : List Nat) (hdz : xD h z) (hkz : xk z = (10, 2)) (hch : narrow .char (.int so) = .int so) (hfi : fits .char (.int so) = true) : lO l g0 a h I n jn yL_condition cL_condition 7 [(0, 39, 40, 19), (0, 39, 46, 21), (0, 39, 52, 30), (0, 39, 58, 13)] [.int x, .int y, .int 1, .int so, .ref (a z)] tR := by
  have hW := hL.1.1.1
  have hC := hL.1.2.1.1
  have hn4 := hL.n
  rcases sIn_cases (x := x) (q := sNp h) (by omega) with ⟨z1, z2⟩ | ⟨p, hp, rfl⟩
  · exact lO.bad (by decide) ⟨by omega, by omega⟩ (w_condition1_eIO l (setG g0 a) (xD h) I (xFh h) n _ _ x y so trivial z hdz hkz (t_X6_addEntry_p l hst (setG g0 a) h I n hW x z2 y so _ _))
  · have h8 := hn4.2.2.1 p hp
    rcases sIn_cases (x := y) (q := sSz h p) (by omega) with ⟨y1, y2⟩ | ⟨j, hj, rfl⟩
    · exact lO.bad (by decide) ⟨by omega, by omega⟩ (w_condition1_eIO l (setG g0 a) (xD h) I (xFh h) n _ _ (nI p) y so trivial z hdz hkz (t_X6_addEntry_s l hst (setG g0 a) h I n hW p hp y y2 so _ _))
    · have hm3 := (((hW.2.2 p hp).2.2.2 j hj).2.2 0 (by omega)).2.1
      cases hd : sCond (sSz h p) so (I z 0) (I z 1) with
      | false => exact lO.bad (by decide) ⟨by omega, by omega⟩ (w_condition1_eIA l (setG g0 a) (xD h) I (xFh h) n _ _ (nI p) (nI j) so trivial z hdz hkz (t_X6_addEntry_d l hst (setG g0 a) h I n hW p hp j hj so _ _ hd))
      | true =>
        by_cases hu : I [5, p] 3 = 0
        · by_cases hf : sCn h p j 0 = 3
          · exact lO.bad (by decide) ⟨by omega, by omega⟩ (w_condition1_eIS l (setG g0 a) (xD h) I (xFh h) n _ _ (nI p) (nI j) so trivial z hdz hkz (t_X6_addEntry_f l hst (setG g0 a) h I n hW p hp j hj so _ _ hd hu hf))
          · have h3c : sCn h p j 0 < 3 := by omega
            obtain ⟨a', ha'⟩ : ∃ w, w = aI a [10, p, j, 0, sCn h p j 0] n := ⟨_, rfl⟩
            have a0 : a' [10, p, j, 0, sCn h p j 0] = n := by rw [ha', aI_at]
            have ae : ∀ id, ¬ (id = [10, p, j, 0, sCn h p j 0]) → a' id = a id := fun id w => by rw [ha', aI_ne w]
            have hn : ∀ id, xD h id → ¬ (id = [10, p, j, 0, sCn h p j 0]) := by
              rintro id hi rfl
              exact Nat.lt_irrefl _ hi.2.2.2
            have W6 := c_X6_addEntry l (setG g0 a') h I n hW p hp j hj hu h3c so _ _ hd hch hfi a0
            have az : a z = a' z := (ae z (hn z hdz)).symm
            rw [az]
            exact Or.inr ⟨a', hCo h p j 0, I, iCo h I p j 0 so (I z 0) (I z 1), n + 1, jn, nI (sCn h p j 0 + 1), _, _, 1, 3, fun id hi => ae id (hn id hi), ⟨by omega, by omega, by omega, by omega, by omega⟩, big_nI (by omega), fun H hH => hL.new _ ae hn (fun j => by simp) hH, w_condition1 l (setG g0 a') (xD h) I (xFh h) n _ _ 1 3 1 3 (nI p) (nI j) so _ _ _ trivial z hdz hkz ⟨Nat.le_refl _, Nat.le_refl _⟩ (fun _ z => z) W6, ⟨hL.1.addCond hp hj (by omega) hu h3c hd, hL.2⟩, rfl, trivial⟩
        · exact lO.bad (by decide) ⟨by omega, by omega⟩ (w_condition1_eIS l (setG g0 a) (xD h) I (xFh h) n _ _ (nI p) (nI j) so trivial z hdz hkz (t_X6_addEntry_u l hst (setG g0 a) h I n hW p hp j hj so _ _ hd hu))
set_option maxHeartbeats 1000000 in
theorem o_condition0 {l : Launch} (hst : l.stackTraces = false) {g0 : xG} {a : List Nat → Nat} {h : xS} {I : xI} {n jn : Nat} (hL : LW h I jn) (x y so : Int32) (z : List Nat) (hdz : xD h z) (hkz : xk z = (10, 2)) (hch : narrow .char (.int so) = .int so) (hfi : fits .char (.int so) = true) : lO l g0 a h I n jn yL_condition cL_condition 7 [(0, 39, 40, 19), (0, 39, 46, 21), (0, 39, 52, 30), (0, 39, 58, 13)] [.int x, .int y, .int 0, .int so, .ref (a z)] tR := by
  have hW := hL.1.1.1
  have hC := hL.1.2.1.1
  have hn4 := hL.n
  rcases sIn_cases (x := x) (q := sNp h) (by omega) with ⟨z1, z2⟩ | ⟨p, hp, rfl⟩
  · exact lO.bad (by decide) ⟨by omega, by omega⟩ (w_condition0_eIO l (setG g0 a) (xD h) I (xFh h) n _ _ x y so trivial z hdz hkz (t_X6_addExit_p l hst (setG g0 a) h I n hW x z2 y so _ _))
  · have h8 := hn4.2.2.1 p hp
    rcases sIn_cases (x := y) (q := sSz h p) (by omega) with ⟨y1, y2⟩ | ⟨j, hj, rfl⟩
    · exact lO.bad (by decide) ⟨by omega, by omega⟩ (w_condition0_eIO l (setG g0 a) (xD h) I (xFh h) n _ _ (nI p) y so trivial z hdz hkz (t_X6_addExit_s l hst (setG g0 a) h I n hW p hp y y2 so _ _))
    · have hm3 := (((hW.2.2 p hp).2.2.2 j hj).2.2 1 (by omega)).2.1
      cases hd : sCond (sSz h p) so (I z 0) (I z 1) with
      | false => exact lO.bad (by decide) ⟨by omega, by omega⟩ (w_condition0_eIA l (setG g0 a) (xD h) I (xFh h) n _ _ (nI p) (nI j) so trivial z hdz hkz (t_X6_addExit_d l hst (setG g0 a) h I n hW p hp j hj so _ _ hd))
      | true =>
        by_cases hk : I [7, p, j] 0 = 109
        · exact lO.bad (by decide) ⟨by omega, by omega⟩ (w_condition0_eUO l (setG g0 a) (xD h) I (xFh h) n _ _ (nI p) (nI j) so trivial z hdz hkz (t_X6_addExit_m l hst (setG g0 a) h I n hW p hp j hj so _ _ hd hk))
        by_cases hu : I [5, p] 3 = 0
        · by_cases hf : sCn h p j 1 = 3
          · exact lO.bad (by decide) ⟨by omega, by omega⟩ (w_condition0_eIS l (setG g0 a) (xD h) I (xFh h) n _ _ (nI p) (nI j) so trivial z hdz hkz (t_X6_addExit_f l hst (setG g0 a) h I n hW p hp j hj so _ _ hd hk hu hf))
          · have h3c : sCn h p j 1 < 3 := by omega
            obtain ⟨a', ha'⟩ : ∃ w, w = aI a [10, p, j, 1, sCn h p j 1] n := ⟨_, rfl⟩
            have a0 : a' [10, p, j, 1, sCn h p j 1] = n := by rw [ha', aI_at]
            have ae : ∀ id, ¬ (id = [10, p, j, 1, sCn h p j 1]) → a' id = a id := fun id w => by rw [ha', aI_ne w]
            have hn : ∀ id, xD h id → ¬ (id = [10, p, j, 1, sCn h p j 1]) := by
              rintro id hi rfl
              exact Nat.lt_irrefl _ hi.2.2.2
            have W6 := c_X6_addExit l (setG g0 a') h I n hW p hp j hj hu h3c so _ _ hd hch hfi hk a0
            have az : a z = a' z := (ae z (hn z hdz)).symm
            rw [az]
            exact Or.inr ⟨a', hCo h p j 1, I, iCo h I p j 1 so (I z 0) (I z 1), n + 1, jn, nI (sCn h p j 1 + 1), _, _, 1, 3, fun id hi => ae id (hn id hi), ⟨by omega, by omega, by omega, by omega, by omega⟩, big_nI (by omega), fun H hH => hL.new _ ae hn (fun j => by simp) hH, w_condition0 l (setG g0 a') (xD h) I (xFh h) n _ _ 1 3 1 3 (nI p) (nI j) so _ _ _ trivial z hdz hkz ⟨Nat.le_refl _, Nat.le_refl _⟩ (fun _ z => z) W6, ⟨hL.1.addCond hp hj (by omega) hu h3c hd, hL.2⟩, rfl, trivial⟩
        · exact lO.bad (by decide) ⟨by omega, by omega⟩ (w_condition0_eIS l (setG g0 a) (xD h) I (xFh h) n _ _ (nI p) (nI j) so trivial z hdz hkz (t_X6_addExit_u l hst (setG g0 a) h I n hW p hp j hj so _ _ hd hk hu))
set_option maxHeartbeats 1000000 in
theorem o_flagt {l : Launch} (hst : l.stackTraces = false) {g0 : xG} {a : List Nat → Nat} {h : xS} {I : xI} {n jn : Nat} (hL : LW h I jn) (x y v : Int32) (hv : sBo v) : lO l g0 a h I n jn yL_flag cL_flag 6 [(0, 36, 37, 19), (0, 36, 43, 30), (0, 36, 49, 13)] [.int x, .int y, .int 116, .int v] tR := by
  have hW := hL.1.1.1
  have hC := hL.1.2.1.1
  have hn4 := hL.n
  rcases sIn_cases (x := x) (q := sNp h) (by omega) with ⟨z1, z2⟩ | ⟨p, hp, rfl⟩
  · exact lO.bad (by decide) ⟨by omega, by omega⟩ (w_flagt_eIO l (setG g0 a) (xD h) I (xFh h) n _ _ x y v trivial (t_X6_setRequired_p l hst (setG g0 a) h I n hW x z2 y v))
  · have h8 := hn4.2.2.1 p hp
    rcases sIn_cases (x := y) (q := sSz h p) (by omega) with ⟨y1, y2⟩ | ⟨j, hj, rfl⟩
    · exact lO.bad (by decide) ⟨by omega, by omega⟩ (w_flagt_eIO l (setG g0 a) (xD h) I (xFh h) n _ _ (nI p) y v trivial (t_X6_setRequired_s l hst (setG g0 a) h I n hW p hp y y2 v))
    · obtain ⟨f4, f6, f51, f52⟩ := (hL.1.1.2 p hp).2 j hj
      by_cases hk : I [7, p, j] 0 = 116
      · by_cases hu : I [5, p] 3 = 0
        · exact lO.good ⟨by omega, by omega⟩ (Nat.le_succ jn) (big_bo f4) (w_flagt l (setG g0 a) (xD h) I (xFh h) n _ _ 0 0 0 0 (nI p) (nI j) v _ _ _ f4 trivial ⟨Nat.le_refl _, Nat.le_refl _⟩ (fun _ z => z) (c_X6_setRequired l (setG g0 a) h I n hW p hp j hj v hk hu hv f4)) ⟨hL.1.flag hp hj hu (by omega) ⟨fun _ => hv, fun _ => hv, fun z => absurd z (by decide)⟩, hL.2⟩ rfl trivial
        · exact lO.bad (by decide) ⟨by omega, by omega⟩ (w_flagt_eIS l (setG g0 a) (xD h) I (xFh h) n _ _ (nI p) (nI j) v trivial (t_X6_setRequired_u l hst (setG g0 a) h I n hW p hp j hj v hk hu))
      · exact lO.bad (by decide) ⟨by omega, by omega⟩ (w_flagt_eUO l (setG g0 a) (xD h) I (xFh h) n _ _ (nI p) (nI j) v trivial (t_X6_setRequired_k l hst (setG g0 a) h I n hW p hp j hj v hk))
set_option maxHeartbeats 1000000 in
theorem o_flagm {l : Launch} (hst : l.stackTraces = false) {g0 : xG} {a : List Nat → Nat} {h : xS} {I : xI} {n jn : Nat} (hL : LW h I jn) (x y v : Int32) (hv : sBo v) : lO l g0 a h I n jn yL_flag cL_flag 6 [(0, 36, 37, 19), (0, 36, 43, 30), (0, 36, 49, 13)] [.int x, .int y, .int 109, .int v] tR := by
  have hW := hL.1.1.1
  have hC := hL.1.2.1.1
  have hn4 := hL.n
  rcases sIn_cases (x := x) (q := sNp h) (by omega) with ⟨z1, z2⟩ | ⟨p, hp, rfl⟩
  · exact lO.bad (by decide) ⟨by omega, by omega⟩ (w_flagm_eIO l (setG g0 a) (xD h) I (xFh h) n _ _ x y v trivial (t_X6_setAgain_p l hst (setG g0 a) h I n hW x z2 y v))
  · have h8 := hn4.2.2.1 p hp
    rcases sIn_cases (x := y) (q := sSz h p) (by omega) with ⟨y1, y2⟩ | ⟨j, hj, rfl⟩
    · exact lO.bad (by decide) ⟨by omega, by omega⟩ (w_flagm_eIO l (setG g0 a) (xD h) I (xFh h) n _ _ (nI p) y v trivial (t_X6_setAgain_s l hst (setG g0 a) h I n hW p hp y y2 v))
    · obtain ⟨f4, f6, f51, f52⟩ := (hL.1.1.2 p hp).2 j hj
      by_cases hk : I [7, p, j] 0 = 109
      · by_cases hu : I [5, p] 3 = 0
        · exact lO.good ⟨by omega, by omega⟩ (Nat.le_succ jn) (big_bo f6) (w_flagm l (setG g0 a) (xD h) I (xFh h) n _ _ 0 0 0 0 (nI p) (nI j) v _ _ _ f6 trivial ⟨Nat.le_refl _, Nat.le_refl _⟩ (fun _ z => z) (c_X6_setAgain l (setG g0 a) h I n hW p hp j hj v hk hu hv f6)) ⟨hL.1.flag hp hj hu (by omega) ⟨fun _ => hv, fun _ => hv, fun z => absurd z (by decide)⟩, hL.2⟩ rfl trivial
        · exact lO.bad (by decide) ⟨by omega, by omega⟩ (w_flagm_eIS l (setG g0 a) (xD h) I (xFh h) n _ _ (nI p) (nI j) v trivial (t_X6_setAgain_u l hst (setG g0 a) h I n hW p hp j hj v hk hu))
      · exact lO.bad (by decide) ⟨by omega, by omega⟩ (w_flagm_eUO l (setG g0 a) (xD h) I (xFh h) n _ _ (nI p) (nI j) v trivial (t_X6_setAgain_k l hst (setG g0 a) h I n hW p hp j hj v hk))
set_option maxHeartbeats 1000000 in
theorem o_limit {l : Launch} (hst : l.stackTraces = false) {g0 : xG} {a : List Nat → Nat} {h : xS} {I : xI} {n jn : Nat} (hL : LW h I jn) (x y v : Int32) : lO l g0 a h I n jn yL_limit cL_limit 5 [(0, 7, 8, 19), (0, 7, 14, 21), (0, 7, 20, 30), (0, 7, 26, 13)] [.int x, .int y, .int v] tR := by
  have hW := hL.1.1.1
  have hC := hL.1.2.1.1
  have hn4 := hL.n
  rcases sIn_cases (x := x) (q := sNp h) (by omega) with ⟨z1, z2⟩ | ⟨p, hp, rfl⟩
  · exact lO.bad (by decide) ⟨by omega, by omega⟩ (w_limit_eIO l (setG g0 a) (xD h) I (xFh h) n _ _ x y v trivial (t_X6_setLimit_p l hst (setG g0 a) h I n hW x z2 y v))
  · have h8 := hn4.2.2.1 p hp
    rcases sIn_cases (x := y) (q := sSz h p) (by omega) with ⟨y1, y2⟩ | ⟨j, hj, rfl⟩
    · exact lO.bad (by decide) ⟨by omega, by omega⟩ (w_limit_eIO l (setG g0 a) (xD h) I (xFh h) n _ _ (nI p) y v trivial (t_X6_setLimit_s l hst (setG g0 a) h I n hW p hp y y2 v))
    · obtain ⟨f4, f6, f51, f52⟩ := (hL.1.1.2 p hp).2 j hj
      by_cases v1 : v < 1
      · exact lO.bad (by decide) ⟨by omega, by omega⟩ (w_limit_eIA l (setG g0 a) (xD h) I (xFh h) n _ _ (nI p) (nI j) v trivial (t_X6_setLimit_l l hst (setG g0 a) h I n hW p hp j hj v v1))
      by_cases v2 : 99 < v
      · exact lO.bad (by decide) ⟨by omega, by omega⟩ (w_limit_eIA l (setG g0 a) (xD h) I (xFh h) n _ _ (nI p) (nI j) v trivial (t_X6_setLimit_h l hst (setG g0 a) h I n hW p hp j hj v v1 v2))
      by_cases hk : I [7, p, j] 0 = 116
      · by_cases hu : I [5, p] 3 = 0
        · exact lO.good ⟨by omega, by omega⟩ (Nat.le_succ jn) (Int32.lt_of_lt_of_le (by decide) f51) (w_limit l (setG g0 a) (xD h) I (xFh h) n _ _ 0 0 0 0 (nI p) (nI j) v _ _ _ trivial ⟨Nat.le_refl _, Nat.le_refl _⟩ (fun _ z => z) (c_X6_setLimit l (setG g0 a) h I n hW p hp j hj v v1 v2 hk hu)) ⟨hL.1.flag hp hj hu (by omega) ⟨fun z => absurd z (by decide), fun z => absurd z (by decide), fun _ => ⟨Int32.not_lt.mp v1, Int32.not_lt.mp v2⟩⟩, hL.2⟩ rfl trivial
        · exact lO.bad (by decide) ⟨by omega, by omega⟩ (w_limit_eIS l (setG g0 a) (xD h) I (xFh h) n _ _ (nI p) (nI j) v trivial (t_X6_setLimit_u l hst (setG g0 a) h I n hW p hp j hj v v1 v2 hk hu))
      · exact lO.bad (by decide) ⟨by omega, by omega⟩ (w_limit_eUO l (setG g0 a) (xD h) I (xFh h) n _ _ (nI p) (nI j) v trivial (t_X6_setLimit_k l hst (setG g0 a) h I n hW p hp j hj v v1 v2 hk))
set_option maxHeartbeats 1000000 in
theorem o_set {l : Launch} (hst : l.stackTraces = false) {g0 : xG} {a : List Nat → Nat} {h : xS} {I : xI} {n jn : Nat} (hL : LW h I jn) (hj512 : jn < 512) (x y v : Int32) : lO l g0 a h I n jn yL_happens cL_happens 6 [(0, 38, 39, 19), (0, 38, 45, 21)] [.int x, .int 100, .int y, .int v] (fun _ h1 J => sNc h1 = sNc h ∧ ∃ (c k : Nat), x = nI c ∧ y = nI k ∧ c < sNc h ∧ k < 4 ∧ gX J c 0 10 = gX I c 0 10 + 1 ∧ gX J c 1 k = v) := by
  have hW := hL.1.1.1
  have hC := hL.1.2.1.1
  have hn4 := hL.n
  have hz3 := hL.1.2.2.2.1.1
  rcases sIn_cases (x := x) (q := sNc h) (by omega) with ⟨z1, z2⟩ | ⟨c, hc, rfl⟩
  · exact lO.bad (by decide) ⟨by omega, by omega⟩ (w_happensd_eIO l (setG g0 a) (xD h) I (xFh h) n _ _ x y v trivial (t_X6_set_c l hst (setG g0 a) h I n hC x z2 y v))
  · obtain ⟨v1, v3, v4, v5⟩ := hL.1.2.1.2 c hc
    obtain ⟨hp, -, h8⟩ := hn4.2.2.2 c hc
    have hq := hL.1.2.2.1 c hc
    rcases sIn_cases (x := y) (q := 4) (by omega) with ⟨y1, y2⟩ | ⟨k, hk, rfl⟩
    · exact lO.bad (by decide) ⟨by omega, by omega⟩ (w_happensd_eIA l (setG g0 a) (xD h) I (xFh h) n _ _ (nI c) y v trivial (t_X6_set_d l hst (setG g0 a) h I n hW hC c hc y v y1))
    cases hv : sVl v with
    | false => exact lO.bad (by decide) ⟨by omega, by omega⟩ (w_happensd_eIA l (setG g0 a) (xD h) I (xFh h) n _ _ (nI c) (nI k) v trivial (t_X6_set_v l hst (setG g0 a) h I n hW hC c hc k hk v hv))
    | true =>
      have W6 := c_X6_set l (setG g0 a) h I n hW hC c hc jn hj512 hz3 k hk v hv
      have hX : (sHap h I 1 (nI k) v (sPl h c, gX I c)).2 = sTail (vP I (sPl h c)) (vC I (sPl h c)) (sCn h (sPl h c)) (sSz h (sPl h c)) (up2 (gX I c) 1 k v) := by
        show sTl h I (sPl h c) (up2 (gX I c) 1 (nI k).toNatClampNeg v) = _; rw [nI_clamp (by omega)]
      obtain ⟨q1, q2, q3⟩ := hL.1.case1 (w := 1) (x := nI k) (y := v) (X := gX I c) hj512 hc ⟨by omega, by omega⟩ ⟨_, (rq3_self _).symm⟩ ⟨hp, k, hk, rfl⟩ (by rw [hX]; exact (hq.set (by omega) hv k _ _ _ h8).mono (by omega))
      refine lO.good ⟨by omega, by omega⟩ (Nat.le_refl _) (big_to (hq.2.2.2 k hk).1) (w_happensd l (setG g0 a) (xD h) I (xFh h) n _ _ 0 0 0 0 (nI c) (nI k) v _ _ _ trivial ⟨Nat.le_refl _, Nat.le_refl _⟩ (fun _ z => z) W6) ⟨q1, hL.2⟩ rfl ⟨rfl, c, k, rfl, rfl, hc, hk, ?_, ?_⟩
      · rw [q2, hX, sTail_10, up2_f _ _ _ (by decide)]
      · rw [q2, hX, sTail_1, up2_at]
theorem sChg_le (X : xX) (y : Int32) : ∀ n, sChg X y n ≤ n
  | 0 => Nat.le_refl 0
  | n + 1 => by
    have := sChg_le X y n
    unfold sChg
    split <;> omega
set_option maxHeartbeats 1000000 in
theorem o_event {l : Launch} (hst : l.stackTraces = false) {g0 : xG} {a : List Nat → Nat} {h : xS} {I : xI} {n jn : Nat} (hL : LW h I jn) (hj512 : jn < 512) (x y v : Int32) : lO l g0 a h I n jn yL_happens cL_happens 6 [(0, 38, 39, 19), (0, 38, 45, 21)] [.int x, .int 101, .int y, .int v] tR := by
  have hW := hL.1.1.1
  have hC := hL.1.2.1.1
  have hn4 := hL.n
  have hz3 := hL.1.2.2.2.1.1
  rcases sIn_cases (x := x) (q := sNc h) (by omega) with ⟨z1, z2⟩ | ⟨c, hc, rfl⟩
  · exact lO.bad (by decide) ⟨by omega, by omega⟩ (w_happense_eIO l (setG g0 a) (xD h) I (xFh h) n _ _ x y v trivial (t_X6_event_c l hst (setG g0 a) h I n hC x z2 y))
  · obtain ⟨v1, v3, v4, v5⟩ := hL.1.2.1.2 c hc
    obtain ⟨hp, -, h8⟩ := hn4.2.2.2 c hc
    have hq := hL.1.2.2.1 c hc
    cases hv : sIn y 0 10 with
    | false => exact lO.bad (by decide) ⟨by omega, by omega⟩ (w_happense_eIA l (setG g0 a) (xD h) I (xFh h) n _ _ (nI c) y v trivial (t_X6_event_e l hst (setG g0 a) h I n hW hC c hc y hv))
    | true =>
      have W6 := c_X6_event l (setG g0 a) h I n hW hC c hc jn hj512 hz3 y hv
      obtain ⟨r, hr⟩ := rq3_rem (gX I c)
      obtain ⟨q1, q2, q3⟩ := hL.1.case1 (w := 2) (x := y) (y := 0) (X := sRem (gX I c) 8) hj512 hc ⟨by omega, by omega⟩ ⟨r, hr⟩ hp (by
        rw [hr]
        exact ((hq.q3 r).fld (by omega) (Or.inr rfl) y _ _ _ h8).mono (by omega))
      exact lO.good ⟨by omega, by omega⟩ (Nat.le_refl _) (big_nI (by have := sChg_le (sHap h I 2 y 0 (sPl h c, sRem (gX I c) 8)).2 (-1) 8; omega)) (w_happense l (setG g0 a) (xD h) I (xFh h) n _ _ 0 0 0 0 (nI c) y v _ _ _ trivial ⟨Nat.le_refl _, Nat.le_refl _⟩ (fun _ z => z) W6) ⟨q1, hL.2⟩ rfl trivial
set_option maxHeartbeats 1000000 in
theorem o_complete {l : Launch} (hst : l.stackTraces = false) {g0 : xG} {a : List Nat → Nat} {h : xS} {I : xI} {n jn : Nat} (hL : LW h I jn) (hj512 : jn < 512) (x y : Int32) : lO l g0 a h I n jn yL_complete cL_complete 4 [(0, 6, 7, 19), (0, 6, 12, 30), (0, 6, 17, 13)] [.int x, .int y] (fun _ h1 J => ∃ (c j : Nat), x = nI c ∧ y = nI j ∧ c < sNc h1 ∧ j < sSz h1 (sPl h1 c) ∧ J [7, sPl h1 c, j] 0 = 116 ∧ gX J c 2 j = 99) := by
  have hW := hL.1.1.1
  have hC := hL.1.2.1.1
  have hn4 := hL.n
  have hz3 := hL.1.2.2.2.1.1
  rcases sIn_cases (x := x) (q := sNc h) (by omega) with ⟨z1, z2⟩ | ⟨c, hc, rfl⟩
  · exact lO.bad (by decide) ⟨by omega, by omega⟩ (w_complete_eIO l (setG g0 a) (xD h) I (xFh h) n _ _ x y trivial (t_X6_complete_c l hst (setG g0 a) h I n hC x z2 y))
  · obtain ⟨v1, v3, v4, v5⟩ := hL.1.2.1.2 c hc
    obtain ⟨hp, -, h8⟩ := hn4.2.2.2 c hc
    have hq := hL.1.2.2.1 c hc
    rcases sIn_cases (x := y) (q := sSz h (sPl h c)) (by omega) with ⟨y1, y2⟩ | ⟨j, hj, rfl⟩
    · exact lO.bad (by decide) ⟨by omega, by omega⟩ (w_complete_eIO l (setG g0 a) (xD h) I (xFh h) n _ _ (nI c) y trivial (t_X6_complete_s l hst (setG g0 a) h I n hW hC c hc y y2))
    by_cases hk : I [7, sPl h c, j] 0 = 116
    · by_cases ha : I [11, c, 2] j = 97
      · have W6 := c_X6_complete l (setG g0 a) h I n hW hC c hc jn hj512 hz3 j hj hk ha
        obtain ⟨r, hr⟩ := rq3_rem (gX I c)
        have hX : (sHap h I 3 (nI j) 0 (sPl h c, rq3 (gX I c) r)).2 = sTail (vP I (sPl h c)) (vC I (sPl h c)) (sCn h (sPl h c)) (sSz h (sPl h c)) (sEnd (vP I (sPl h c)) (sSz h (sPl h c)) (rq3 (gX I c) r) j 99) := by
          show sTl h I (sPl h c) (sEnd (vP I (sPl h c)) (sSz h (sPl h c)) (rq3 (gX I c) r) (nI j).toNatClampNeg 99) = _; rw [nI_clamp (by omega)]
        obtain ⟨q1, q2, q3⟩ := hL.1.case1 (w := 3) (x := nI j) (y := 0) (X := sRem (gX I c) 8) hj512 hc ⟨by omega, by omega⟩ ⟨r, hr⟩ ⟨hp, j, hj, rfl⟩ (by
          rw [hr, hX]
          exact ((hq.q3 r).fin (by omega) (j := j) ha _ _ _ h8).mono (by omega))
        refine lO.good ⟨by omega, by omega⟩ (Nat.le_refl _) (big_nI (by have := sChg_le (sHap h I 3 (nI j) 0 (sPl h c, sRem (gX I c) 8)).2 (nI j) 8; omega)) (w_complete l (setG g0 a) (xD h) I (xFh h) n _ _ 0 0 0 0 (nI c) (nI j) _ _ _ trivial ⟨Nat.le_refl _, Nat.le_refl _⟩ (fun _ z => z) W6) ⟨q1, hL.2⟩ rfl ⟨c, j, rfl, rfl, hc, hj, ?_, ?_⟩
        · rw [q3 _ (by simp) (by simp) (by simp)]; exact hk
        · rw [q2, hr, hX]
          exact sTail_99 _ _ _ _ _ hk (sEnd_99 _ _ _ _ _ _ (if_pos rfl))
      · exact lO.bad (by decide) ⟨by omega, by omega⟩ (w_complete_eIS l (setG g0 a) (xD h) I (xFh h) n _ _ (nI c) (nI j) trivial (t_X6_complete_a l hst (setG g0 a) h I n hW hC c hc j hj hk ha))
    · exact lO.bad (by decide) ⟨by omega, by omega⟩ (w_complete_eUO l (setG g0 a) (xD h) I (xFh h) n _ _ (nI c) (nI j) trivial (t_X6_complete_k l hst (setG g0 a) h I n hW hC c hc j hj hk))
set_option maxHeartbeats 1000000 in
theorem o_waiting {l : Launch} (hst : l.stackTraces = false) {g0 : xG} {a : List Nat → Nat} {h : xS} {I : xI} {n jn : Nat} (hL : LW h I jn) (hj512 : jn < 512) (x v : Int32) (hv : sBo v) : lO l g0 a h I n jn yL_waiting cL_waiting 4 [(0, 14, 15, 19)] [.int x, .int v] tR := by
  have hW := hL.1.1.1
  have hC := hL.1.2.1.1
  have hn4 := hL.n
  have hz3 := hL.1.2.2.2.1.1
  rcases sIn_cases (x := x) (q := sNc h) (by omega) with ⟨z1, z2⟩ | ⟨c, hc, rfl⟩
  · exact lO.bad (by decide) ⟨by omega, by omega⟩ (w_waiting_eIO l (setG g0 a) (xD h) I (xFh h) n _ _ x v trivial (t_X6_setWaiting_c l hst (setG g0 a) h I n hC x z2 v))
  · obtain ⟨v1, v3, v4, v5⟩ := hL.1.2.1.2 c hc
    obtain ⟨hp, -, h8⟩ := hn4.2.2.2 c hc
    have hq := hL.1.2.2.1 c hc
    rcases hv with rfl | rfl
    · obtain ⟨q1, q2, q3⟩ := hL.1.case1 (w := 5) (x := 0) (y := 0) (X := gX I c) hj512 hc ⟨by omega, by omega⟩ ⟨_, (rq3_self _).symm⟩ hp ((hq.fld (by omega) (Or.inl rfl) 0 _ _ _ h8).mono (by omega))
      exact lO.good ⟨by omega, by omega⟩ (Nat.le_refl _) (big_bo v3) (w_waiting l (setG g0 a) (xD h) I (xFh h) n _ _ 0 0 0 0 (nI c) 0 _ _ _ v3 trivial ⟨Nat.le_refl _, Nat.le_refl _⟩ (fun _ z => z) (c_X6_setWaiting_0 l (setG g0 a) h I n hW hC c hc jn hj512 hz3 v3)) ⟨q1, hL.2⟩ rfl trivial
    · obtain ⟨q1, q2, q3⟩ := hL.1.case1 (w := 4) (x := 0) (y := 0) (X := gX I c) hj512 hc ⟨by omega, by omega⟩ ⟨_, (rq3_self _).symm⟩ hp ((hq.fld (by omega) (Or.inl rfl) 1 _ _ _ h8).mono (by omega))
      exact lO.good ⟨by omega, by omega⟩ (Nat.le_refl _) (big_bo v3) (w_waiting l (setG g0 a) (xD h) I (xFh h) n _ _ 0 0 0 0 (nI c) 1 _ _ _ v3 trivial ⟨Nat.le_refl _, Nat.le_refl _⟩ (fun _ z => z) (c_X6_setWaiting_1 l (setG g0 a) h I n hW hC c hc jn hj512 hz3 v3)) ⟨q1, hL.2⟩ rfl trivial
set_option maxHeartbeats 1000000 in
theorem o_move {l : Launch} (hst : l.stackTraces = false) {g0 : xG} {a : List Nat → Nat} {h : xS} {I : xI} {n jn : Nat} (hL : LW h I jn) (hj512 : jn < 512) (x y v : Int32) : lO l g0 a h I n jn yL_happens cL_happens 6 [(0, 38, 39, 19), (0, 38, 45, 21)] [.int x, .int 109, .int y, .int v] tR := by
  have hW := hL.1.1.1
  have hC := hL.1.2.1.1
  have hn4 := hL.n
  have hz3 := hL.1.2.2.2.1.1
  rcases sIn_cases (x := x) (q := sNc h) (by omega) with ⟨z1, z2⟩ | ⟨c, hc, rfl⟩
  · exact lO.bad (by decide) ⟨by omega, by omega⟩ (w_happensm_eIO l (setG g0 a) (xD h) I (xFh h) n _ _ x y v trivial (t_X6_move_c l hst (setG g0 a) h I n hC x z2 y))
  · obtain ⟨v1, v3, v4, v5⟩ := hL.1.2.1.2 c hc
    obtain ⟨hp, -, h8⟩ := hn4.2.2.2 c hc
    have hq := hL.1.2.2.1 c hc
    rcases sIn_cases (x := y) (q := sNp h) (by omega) with ⟨y1, y2⟩ | ⟨q, hq0, rfl⟩
    · exact lO.bad (by decide) ⟨by omega, by omega⟩ (w_happensm_eIO l (setG g0 a) (xD h) I (xFh h) n _ _ (nI c) y v trivial (t_X6_move_p l hst (setG g0 a) h I n hW hC c hc y y2))
    by_cases hlt : sSz h q < sSz h (sPl h c)
    · exact lO.bad (by decide) ⟨by omega, by omega⟩ (w_happensm_eIA l (setG g0 a) (xD h) I (xFh h) n _ _ (nI c) (nI q) v trivial (t_X6_move_s l hst (setG g0 a) h I n hW hC c hc q hq0 hlt))
    · have hle : sSz h (sPl h c) ≤ sSz h q := by omega
      have h8q := hn4.2.2.1 q hq0
      obtain ⟨I0, hI0⟩ : ∃ z, z = up I [5, q] 3 1 := ⟨_, rfl⟩
      have W6 := c_X6_move l (setG g0 a) h I n hW hC c hc jn hj512 hz3 q hq0 hle
      rw [← hI0] at W6
      have i0 : ∀ id, (∀ p, id ≠ [5, p]) → I0 id = I id := fun id hi => by rw [hI0]; exact up_id (hi q)
      have i05 : ∀ p k, k ≠ 3 → I0 [5, p] k = I [5, p] k := fun p k hk => by rw [hI0]; exact up_ne2 _ _ (Or.inr hk)
      have b53 : ∀ p, I0 [5, p] 3 = if p = q then 1 else I [5, p] 3 := fun p => by
        rw [hI0]
        by_cases e : p = q
        · rw [if_pos e, e, up_at]
        · rw [if_neg e, up_id (by simpa using e)]
      have hcl : (nI q).toNatClampNeg = q := nI_clamp (by omega)
      have hpc : sPl (hPl h c q) c = q := if_pos rfl
      have hX : (sHap h I 6 (nI q) 0 (sPl h c, gX I c)).2 = sTail (vP I q) (vC I q) (sCn h q) (sSz h q) (gX I c) := by
        show sTl h I (nI q).toNatClampNeg (gX I c) = _
        rw [hcl]
      obtain ⟨q1, q2, q3⟩ := hL.1.case (h' := hPl h c q) (I0 := I0) (w := 6) (x := nI q) (y := 0) (X := gX I c) hj512 hc ⟨by omega, by omega⟩ ⟨_, (rq3_self _).symm⟩ ⟨q, hq0, rfl⟩ (by rw [hX]; exact (hq.same (by omega) _ _ _ h8q).mono (by omega)) i0 rfl rfl rfl rfl (by rw [hpc]; exact hcl.symm) (fun d hd => if_neg hd) i05
        (fun p hp2 => by
          rw [b53]
          by_cases e : p = q
          · rw [if_pos e]; exact Or.inr rfl
          · rw [if_neg e]; exact (hL.1.1.2 p hp2).1)
        (fun p hp2 => by
          rw [b53]
          by_cases e : p = q
          · rw [if_pos e]; decide
          · rw [if_neg e]; exact hp2)
        (by rw [hpc]; exact ⟨by omega, hq0, by rw [b53, if_pos rfl]; decide⟩)
        (fun _ => ⟨q, hq0, rfl, by rw [b53, if_pos rfl]; decide⟩)
      have hc4 : sPl (hPl h c q) 4 = sPl h 4 := if_neg (by omega)
      exact lO.good ⟨by omega, by omega⟩ (Nat.le_refl _) (big_nI (by omega)) (w_happensm l (setG g0 a) (xD h) I (xFh h) n _ _ 0 0 0 0 (nI c) (nI q) v _ _ _ trivial ⟨Nat.le_refl _, Nat.le_refl _⟩ (fun _ z => z) W6) ⟨q1, by rw [hc4]; exact hL.2⟩ rfl trivial
theorem sLat_le (P : Nat → Nat → Int32) (X : xX) : ∀ n, sLat P X n ≤ n
  | 0 => Nat.le_refl 0
  | n + 1 => by
    have := sLat_le P X n
    show sLat P X n + (if sAct P X n = true ∧ sUnt P X n ≤ 0 then 1 else 0) ≤ n + 1
    split <;> omega
theorem sLas_le {h : xS} (hn : ∀ c, c < sNc h → sPl h c < sNp h ∧ 0 < sSz h (sPl h c) ∧ sSz h (sPl h c) ≤ 8) (I : xI) : ∀ i, i ≤ sNc h → sLas h I i ≤ 8 * i
  | 0, _ => Nat.le_refl 0
  | i + 1, hi => by
    have a := sLas_le hn I i (by omega)
    have b := sLat_le (vP I (sPl h i)) (gX I i) (sSz h (sPl h i))
    have e := (hn i (by omega)).2.2
    show sLas h I i + sLat (vP I (sPl h i)) (gX I i) (sSz h (sPl h i)) ≤ 8 * (i + 1)
    omega
set_option maxHeartbeats 1000000 in
theorem o_pass {l : Launch} (hst : l.stackTraces = false) {g0 : xG} {a : List Nat → Nat} {h : xS} {I : xI} {n jn : Nat} (hL : LW h I jn) (hj512 : jn < 512) (x : Int32) : lO l g0 a h I n jn yL_pass cL_pass 3 [(0, 5, 6, 21)] [.int x] (fun _ h1 J => sNc h1 = sNc h ∧ ∀ d, x = nI d → ∀ c, c < sNc h → gX J c 0 6 = gX I c 0 6 + nI d) := by
  have hW := hL.1.1.1
  have hC := hL.1.2.1.1
  have hn4 := hL.n
  by_cases x1 : x < 1
  · exact lO.bad (by decide) ⟨by omega, by omega⟩ (w_pass_eIA l (setG g0 a) (xD h) I (xFh h) n _ _ x trivial (t_X6_pass_l l hst (setG g0 a) h I n x x1))
  by_cases x2 : 10 < x
  · exact lO.bad (by decide) ⟨by omega, by omega⟩ (w_pass_eIA l (setG g0 a) (xD h) I (xFh h) n _ _ x trivial (t_X6_pass_h l hst (setG g0 a) h I n x x1 x2))
  obtain ⟨d, hd, rfl⟩ : ∃ d : Nat, (1 ≤ d ∧ d ≤ 10) ∧ x = nI d := by
    obtain ⟨i, hi2, rfl⟩ := nI_of (x := x) (fun z => x1 (Int32.lt_trans z (by decide)))
    refine ⟨i, ⟨?_, ?_⟩, rfl⟩
    · exact Nat.lt_of_not_le (fun z => x1 ((nI_ltI (a := i) (b := 1) (by omega) (by omega)).mpr (by omega)))
    · exact Nat.le_of_not_lt (fun z => x2 ((nI_ltI (a := 10) (b := i) (by omega) (by omega)).mpr z))
  have hz3 := hL.1.2.2.2.1.1
  have W6 := c_X6_pass l (setG g0 a) h I n hW hC jn hj512 hz3 d hd.1 hd.2
  refine lO.good ⟨by omega, by omega⟩ (Nat.le_refl _) (big_nI (by have := sLas_le hn4.2.2.2 (kP h I jn d) (sNc h) (Nat.le_refl _); omega)) (w_pass l (setG g0 a) (xD h) I (xFh h) n _ _ 0 0 0 0 (nI d) _ _ _ trivial ⟨Nat.le_refl _, Nat.le_refl _⟩ (fun _ z => z) W6) ⟨hL.1.pas hj512 hd, hL.2⟩ rfl ⟨rfl, fun d' e c hc => ?_⟩
  rw [← e]
  show kP h I jn d [11, c, 0] 6 = _
  rw [kP_11, if_pos hc]
  exact sItr_6 h I (sPl h c, gX I c) d
set_option maxHeartbeats 1000000 in
theorem o_begin {l : Launch} (hst : l.stackTraces = false) {g0 : xG} {a : List Nat → Nat} {h : xS} {I : xI} {n jn : Nat} (hL : LW h I jn) (hj512 : jn < 512) (x : Int32) : lO l g0 a h I n jn yL_begin cL_begin 3 [(0, 5, 6, 19), (0, 5, 11, 13)] [.int x] tR := by
  have hW := hL.1.1.1
  have hC := hL.1.2.1.1
  have hn4 := hL.n
  rcases sIn_cases (x := x) (q := sNp h) (by omega) with ⟨z1, z2⟩ | ⟨p, hp, rfl⟩
  · exact lO.bad (by decide) ⟨by omega, by omega⟩ (w_begin_eIO l (setG g0 a) (xD h) I (xFh h) n _ _ x trivial (t_X6_begin_p l hst (setG g0 a) h I n hW x z2))
  · have h8 := hn4.2.2.1 p hp
    by_cases he : sSz h p = 0
    · exact lO.bad (by decide) ⟨by omega, by omega⟩ (w_begin_eIS l (setG g0 a) (xD h) I (xFh h) n _ _ (nI p) trivial (t_X6_begin_e l hst (setG g0 a) h I n hW hC p hp he))
    by_cases hf : sNc h = 4
    · exact lO.bad (by decide) ⟨by omega, by omega⟩ (w_begin_eIS l (setG g0 a) (xD h) I (xFh h) n _ _ (nI p) trivial (t_X6_begin_f l hst (setG g0 a) h I n hW hC p hp (by omega) hf))
    have h4 : sNc h < 4 := by omega
    obtain ⟨Iz, hIz⟩ : ∃ z, z = sX I (sNc h) (fun _ => r0) := ⟨_, rfl⟩
    have ez : ∀ id, lvJ (sNc h) id = true → Iz id = I id := fun id hi => by
      rw [hIz]
      rcases sX_cases I (sNc h) (fun _ => r0) id with ⟨f, rfl, -⟩ | ⟨-, e⟩
      · exact absurd hi (by simp [lvJ])
      · exact e
    have ezx : ∀ f, Iz [11, sNc h, f] = r0 := fun f => by rw [hIz, sX_at]
    have Lz : LW h Iz jn := ⟨hL.1.zero (Nat.le_refl _) h4 ez, hL.2⟩
    have hWz := Lz.1.1.1
    have hCz := Lz.1.2.1.1
    have hz3 := Lz.1.2.2.2.1.1
    obtain ⟨a', ha'⟩ : ∃ z, z = (aI (aI (aI (aI (aI (aI a [11, sNc h, 0] n) [11, sNc h, 1] (n + 1)) [11, sNc h, 2] (n + 2)) [11, sNc h, 3] (n + 3)) [11, sNc h, 4] (n + 4)) [11, sNc h, 5] (n + 5)) := ⟨_, rfl⟩
    have a0 : a' [11, sNc h, 0] = n := by rw [ha', aI_ne (by simp), aI_ne (by simp), aI_ne (by simp), aI_ne (by simp), aI_ne (by simp), aI_at]
    have a1 : a' [11, sNc h, 1] = n + 1 := by rw [ha', aI_ne (by simp), aI_ne (by simp), aI_ne (by simp), aI_ne (by simp), aI_at]
    have a2 : a' [11, sNc h, 2] = n + 2 := by rw [ha', aI_ne (by simp), aI_ne (by simp), aI_ne (by simp), aI_at]
    have a3 : a' [11, sNc h, 3] = n + 3 := by rw [ha', aI_ne (by simp), aI_ne (by simp), aI_at]
    have a4 : a' [11, sNc h, 4] = n + 4 := by rw [ha', aI_ne (by simp), aI_at]
    have a5 : a' [11, sNc h, 5] = n + 5 := by rw [ha', aI_at]
    have ae : ∀ id, ¬ (id = [11, sNc h, 0] ∨ id = [11, sNc h, 1] ∨ id = [11, sNc h, 2] ∨ id = [11, sNc h, 3] ∨ id = [11, sNc h, 4] ∨ id = [11, sNc h, 5]) → a' id = a id := fun id w => by
      rw [not_or, not_or, not_or, not_or, not_or] at w
      rw [ha', aI_ne w.2.2.2.2.2, aI_ne w.2.2.2.2.1, aI_ne w.2.2.2.1, aI_ne w.2.2.1, aI_ne w.2.1, aI_ne w.1]
    have nx : ∀ f, ¬ xD h [11, sNc h, f] := fun f z => by
      rcases z.1 with q | q
      · exact Nat.lt_irrefl _ q
      · exact hf q
    have hn : ∀ id, xD h id → ¬ (id = [11, sNc h, 0] ∨ id = [11, sNc h, 1] ∨ id = [11, sNc h, 2] ∨ id = [11, sNc h, 3] ∨ id = [11, sNc h, 4] ∨ id = [11, sNc h, 5]) := by
      rintro id hi (rfl | rfl | rfl | rfl | rfl | rfl) <;> exact nx _ hi
    have W6 := c_X6_begin l (setG g0 a') h Iz n hWz hCz p hp he h4 jn hj512 hz3 a0 a1 a2 a3 a4 a5
    rw [iBe_X ezx] at W6
    obtain ⟨K, hK⟩ : ∃ z, z = kI (hBe h p) (iBe h Iz p) jn (sNc h) 0 (nI p) 0 xF0 := ⟨_, rfl⟩
    rw [← hK] at W6
    have kR : ∀ id, id ≠ [3] → (∀ k, id ≠ [4, k]) → (∀ f, id ≠ [11, sNc h, f]) → K id = iBe h Iz p id := fun id b1 b2 b3 => by
      rw [hK, kI_no _ _ _ _ _ _ _ _ b1 b2 b3]
    have kk : ∀ id, id ≠ [0] → (∀ q, id ≠ [5, q]) → id ≠ [3] → (∀ k, id ≠ [4, k]) → (∀ f, id ≠ [11, sNc h, f]) → K id = Iz id := fun id b0 b5 b1 b2 b3 => by
      rw [kR id b1 b2 b3, iBe_no _ _ _ b0 (b5 p) b3]
    have b5 : ∀ q k, K [5, q] k = if q = p ∧ k = 3 then 1 else Iz [5, q] k := fun q k => by rw [kR _ (by simp) (by simp) (by simp), iBe_5]
    have hcl : (nI p).toNatClampNeg = p := nI_clamp (by omega)
    have us : sUs (fun _ => True) h (hBe h p) Iz (iBe h Iz p) := fun q _ => ⟨funext fun j => iBe_no _ _ _ (by simp) (by simp) (by simp), funext fun j => funext fun w => funext fun k => iBe_no _ _ _ (by simp) (by simp) (by simp), rfl, rfl⟩
    have hXk : (sHap (hBe h p) (iBe h Iz p) 0 (nI p) 0 (sPl (hBe h p) (sNc h), xF0)).2 = (sHap h Iz 0 (nI p) 0 (p, xF0)).2 := by
      rw [(sHap_congr us (w := 0) (x := nI p) (y := 0) (s := (sPl (hBe h p) (sNc h), xF0)) (Or.inr rfl) (fun _ => trivial)).1]
      rfl
    have k4 : ∀ k, K [4, k] = sJ (iBe h Iz p) jn (nI (sNc h)) (nI 0) (nI p) 0 [4, k] := fun k => by
      rw [hK]
      unfold kI
      rcases sX_cases (sJ (iBe h Iz p) jn (nI (sNc h)) (nI 0) (nI p) 0) (sNc h) (sHap (hBe h p) (iBe h Iz p) 0 (nI p) 0 (sPl (hBe h p) (sNc h), xF0)).2 [4, k] with ⟨f, e, -⟩ | ⟨-, e⟩
      · simp at e
      · rw [e]
    have i4 : ∀ k, iBe h Iz p [4, k] = Iz [4, k] := fun k => iBe_no _ _ _ (by simp) (by simp) (by simp)
    have hV : LV (hBe h p) K (jn + 1) := by
      refine LV.begin (c := sNc h) (p := p) (Xf := xF0) Lz.1 hj512 rfl h4 hp (by omega) xF0_nrm xF0_ch rfl rfl rfl rfl (if_pos rfl) (fun d hd => if_neg hd) (fun id hi => kk id ?_ ?_ ?_ ?_ ?_) (fun q k hk => by rw [b5, if_neg (fun z => hk z.2)]) (fun q hq => ?_) (fun q hq => ?_) ?_ ?_ ?_ ?_ (fun r hr => ?_) ?_ ?_ (fun d hd => ?_)
      · rintro rfl; cases hi
      · rintro q rfl; cases hi
      · rintro rfl; cases hi
      · rintro q rfl; cases hi
      · rintro q rfl; cases hi
      · rw [b5]; split
        · exact Or.inr rfl
        · exact (Lz.1.1.2 q hq).1
      · rw [b5]; split
        · decide
        · exact hq
      · rw [b5, if_pos ⟨rfl, rfl⟩]; decide
      · rw [kR _ (by simp) (by simp) (by simp), iBe_0]; exact if_neg (by decide)
      · rw [kR _ (by simp) (by simp) (by simp), iBe_0]; exact if_pos rfl
      · rw [hK]
        unfold kI
        rcases sX_cases (sJ (iBe h Iz p) jn (nI (sNc h)) (nI 0) (nI p) 0) (sNc h) (sHap (hBe h p) (iBe h Iz p) 0 (nI p) 0 (sPl (hBe h p) (sNc h), xF0)).2 [3] with ⟨f, e, -⟩ | ⟨-, e⟩
        · simp at e
        · rw [e]; exact sJ_3 _ _ _ _ _ _
      · obtain ⟨q1, q2, q3, q4⟩ := sJ_4 (iBe h Iz p) jn (nI (sNc h)) (nI 0) (nI p) 0 r
        rw [if_neg (by omega), i4] at q1 q2 q3 q4
        rw [k4, k4, k4, k4]
        exact ⟨q1, q2, q3, q4⟩
      · obtain ⟨q1, q2, q3, q4⟩ := sJ_4 (iBe h Iz p) jn (nI (sNc h)) (nI 0) (nI p) 0 jn
        rw [if_pos rfl] at q1 q2 q3 q4
        rw [k4, k4, k4]
        exact ⟨q1, q2, q3⟩
      · rw [← hXk, hK]; exact gX_sX _ _ _
      · funext f
        show K [11, d, f] = Iz [11, d, f]
        rw [hK]
        unfold kI
        rw [sX_ne _ _ _ hd, sJ_n _ _ _ _ _ _ (by simp) (by simp), iBe_no _ _ _ (by simp) (by simp) (by simp [hd])]
    exact Or.inr ⟨a', hBe h p, Iz, K, n + 1 + 1 + 1 + 1 + 1 + 1, jn + 1, nI (sNc h), _, _, 6, 47, fun id hi => ae id (hn id hi), ⟨by omega, by omega, by omega, by omega, by omega⟩, big_nI (by omega), fun H hH => (hL.new _ ae hn (fun j => by simp) hH).congr (g' := setG g0 a) (fun _ z => z) (fun id hi => ez id (by
      unfold lvJ
      split
      · rename_i d f
        exact decide_eq_true (fun e => nx f (e ▸ hi))
      · rfl)) (fun _ _ => rfl), w_begin l (setG g0 a') (xD h) Iz (xFh h) n _ _ 6 47 6 47 (nI p) _ _ _ trivial ⟨Nat.le_refl _, Nat.le_refl _⟩ (fun _ z => z) W6, ⟨hV, by
        show (if 4 = sNc h then p else sPl h 4) < sNp h ∨ (if 4 = sNc h then p else sPl h 4) = 3
        rw [if_neg (by omega)]
        exact hL.2⟩, rfl, trivial⟩
