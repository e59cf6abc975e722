/-! OUTCOMES: the plans change -/
theorem LW.pl {h : xS} {I : xI} {jn : Nat} (hL : LW h I jn) : ∀ c, (c < sNc h ∨ c = 4) → sPl h c < sNp h ∨ sPl h c = 3 := by
  rintro c (hc | rfl)
  · exact Or.inl (hL.1.2.1.1.2.2 c hc).1
  · exact hL.2
theorem xF_cl {h : xS} (hp : ∀ c, (c < sNc h ∨ c = 4) → sPl h c < sNp h ∨ sPl h c = 3) {id id2 : List Nat} {k : Nat} (hi : xD h id) (e : xFh h id k = some id2) : xD h id2 ∨ (∃ j, id2 = [7, 3, j]) ∨ (∃ f, id2 = [21, f]) ∨ ∃ x y z, id2 = [23, x, y, z] := by
  unfold xFh at e
  split at e
  · split at e <;> first | (obtain rfl := Option.some.inj e; exact Or.inl trivial) | (obtain rfl := Option.some.inj e; exact Or.inl ⟨Or.inr rfl, by omega⟩) | cases e
  · split at e
    · rename_i z; obtain rfl := Option.some.inj e; exact Or.inl (Or.inl z)
    · cases e
  · split at e
    · rename_i z; obtain rfl := Option.some.inj e; exact Or.inl ⟨Or.inl z, by omega⟩
    · cases e
  · split at e
    · rename_i z; obtain rfl := Option.some.inj e; exact Or.inl z
    · cases e
  · split at e
    · obtain rfl := Option.some.inj e; exact Or.inl hi
    · cases e
  · split at e
    · rename_i p z; obtain rfl := Option.some.inj e
      rcases hi with hi | rfl
      · exact Or.inl ⟨hi, z⟩
      · exact Or.inr (Or.inl ⟨_, rfl⟩)
    · cases e
  · split at e
    · obtain rfl := Option.some.inj e; exact Or.inl ⟨hi.1, hi.2, by omega⟩
    · obtain rfl := Option.some.inj e; exact Or.inl ⟨hi.1, hi.2, by omega⟩
    · cases e
  · split at e
    · obtain rfl := Option.some.inj e; exact Or.inl hi
    · cases e
  · split at e
    · rename_i z; obtain rfl := Option.some.inj e; exact Or.inl ⟨hi.1, hi.2.1, hi.2.2, z⟩
    · cases e
  · split at e
    · obtain rfl := Option.some.inj e; exact Or.inl (hp _ hi.1)
    all_goals first | (obtain rfl := Option.some.inj e; exact Or.inl ⟨hi.1, by omega⟩) | cases e
  · split at e <;> first | (obtain rfl := Option.some.inj e; exact Or.inr (Or.inr (Or.inl ⟨_, rfl⟩))) | (obtain rfl := Option.some.inj e; exact Or.inl (by simp [xD])) | cases e
  · split at e
    · rename_i z; obtain rfl := Option.some.inj e
      refine Or.inl ?_
      simp only [xD] at hi ⊢
      unfold xLn at z
      split at z <;> omega
    · cases e
  · split at e
    · obtain rfl := Option.some.inj e; exact Or.inr (Or.inr (Or.inr ⟨_, _, _, rfl⟩))
    · cases e
  · cases e
theorem LW.new {g0 : xG} {a a' : List Nat → Nat} {h : xS} {I : xI} {n jn : Nat} {H : Heap} (hL : LW h I jn) (nw : List Nat → Prop) (e : ∀ id, ¬ nw id → a' id = a id) (hn : ∀ id, xD h id → ¬ nw id) (h7 : ∀ j, ¬ nw [7, 3, j]) (h21 : ∀ f, ¬ nw [21, f]) (h23 : ∀ x y z, ¬ nw [23, x, y, z]) (hH : xR (setG g0 a) (xD h) I (xFh h) n H) : xR (setG g0 a') (xD h) I (xFh h) n H :=
  xR_setG hH nw e hn (fun id k id2 hi hk => by
    rcases xF_cl hL.pl hi hk with z | ⟨j, rfl⟩ | ⟨f, rfl⟩ | ⟨x, y, z, rfl⟩
    · exact hn _ z
    · exact h7 _
    · exact h21 _
    · exact h23 _ _ _)
def aI (a : List Nat → Nat) (i : List Nat) (v : Nat) : List Nat → Nat := fun id => if id = i then v else a id
theorem aI_at {a : List Nat → Nat} {i : List Nat} {v : Nat} : aI a i v i = v := if_pos rfl
theorem aI_ne {a : List Nat → Nat} {i id : List Nat} {v : Nat} (h : id ≠ i) : aI a i v id = a id := if_neg h
set_option maxHeartbeats 1000000 in
theorem o_addPlan {l : Launch} (hst : l.stackTraces = false) {g0 : xG} {a : List Nat → Nat} {h : xS} {I : xI} {n jn : Nat} (hL : LW h I jn) : lwO l g0 a h I n jn yL_addPlan cL_addPlan 3 [(0, 8, 11, 13)] yX7_addPlan cX7_addPlan 1 FieldType.int [] := by
  have hW := hL.1.1.1
  have hC := hL.1.2.1.1
  have h3 := hW.1
  have n4 := hC.1
  have hm := hL.1.2.1.2.1
  have hz := hL.1.1.2.1
  by_cases q : sNp h = 3
  · exact lwO.bad 1 0 (by decide) ⟨by omega, by omega, by omega, by omega⟩ (w_addPlan_eIS l (setG g0 a) (xD h) I (xFh h) n _ _ trivial (t_X6_addPlan_f l hst (setG g0 a) h I n hW q)) (fun n' => c_X7_addPlan_1 l (setG g0 a) h I n' (hz.trans (congrArg nI q)))
  · have hq : sNp h < 3 := by omega
    obtain ⟨a', ha'⟩ : ∃ z, z = aI (aI a [5, sNp h] n) [6, sNp h] (n + 1) := ⟨_, rfl⟩
    have a0 : a' [5, sNp h] = n := by rw [ha', aI_ne (by simp), aI_at]
    have a1 : a' [6, sNp h] = n + 1 := by rw [ha', aI_at]
    have ae : ∀ id, ¬ (id = [5, sNp h] ∨ id = [6, sNp h]) → a' id = a id := fun id z => by rw [ha', aI_ne (fun e => z (Or.inr e)), aI_ne (fun e => z (Or.inl e))]
    have hn : ∀ id, xD h id → ¬ (id = [5, sNp h] ∨ id = [6, sNp h]) := by
      rintro id hi (rfl | rfl)
      · rcases hi with z | z
        · exact Nat.lt_irrefl _ z
        · exact q z
      · rcases hi with z | z
        · exact Nat.lt_irrefl _ z
        · exact q z
    have W6 := c_X6_addPlan l (setG g0 a') h I n hW hq a0 a1
    have hz' : up (iPn h I) [30] 0 (nI (sNp h)) [20] 10 = nI (sNp h) := by rw [up_id (by simp)]; unfold iPn; rw [up_id (by simp), upR_id (by simp), upR_id (by simp)]; exact hz
    have k := c_X7_addPlan l (setG g0 a') (hPn h) (up (iPn h I) [30] 0 (nI (sNp h))) (n + 1 + 1) (sNp h) hq hz'
    refine Or.inr ⟨a', hPn h, I, up (iPn h I) [30] 0 (nI (sNp h)), up (up (up (iPn h I) [30] 0 (nI (sNp h))) [20] 23 0) [20] 10 (nI (sNp h + 1)), n + 1 + 1, jn, nI (sNp h), _, _, _, _, 2, 12, fun id hi => ae id (hn id hi), ⟨by omega, by omega, by omega, by omega, by omega, by omega, by omega⟩, fun H hH => hL.new _ ae hn (fun j => by simp) (fun f => by simp) (fun x y z => by simp) hH, w_addPlan l (setG g0 a') (xD h) (xD (hPn h)) I (iPn h I) (xFh h) (xFh (hPn h)) n (n + 1 + 1) _ _ 2 12 (nI (sNp h)) trivial trivial W6, k, ?_, ?_, fun z => by (cases z), hL.1.addPlan hq _ 0 _, hL.2.imp (fun z => Nat.lt_succ_of_lt z) (fun z => z)⟩
    · rw [up_ne (by decide)]; exact up_at
    · rw [up_id (by simp), up_id (by simp)]; exact up_at
set_option maxHeartbeats 1000000 in
theorem o_addStep {l : Launch} (hst : l.stackTraces = false) {g0 : xG} {a : List Nat → Nat} {h : xS} {I : xI} {n jn : Nat} (hL : LW h I jn) (x y z : Int32) : lwO l g0 a h I n jn yL_addStep cL_addStep 6 [(0, 12, 15, 19), (0, 12, 19, 21), (0, 12, 23, 13)] yX7_addStep cX7_addStep 7 FieldType.int [.int x, .int y, .int z] := by
  have hW := hL.1.1.1
  have hC := hL.1.2.1.1
  have h3 := hW.1
  have n4 := hC.1
  have hm := hL.1.2.1.2.1
  have hz := hL.1.1.2.1
  rcases sIn_cases (x := x) (q := sNp h) (by omega) with ⟨z1, z2⟩ | ⟨p, hp, rfl⟩
  · exact lwO.bad 1 0 (by decide) ⟨by omega, by omega, by omega, by omega⟩ (w_addStep_eIO l (setG g0 a) (xD h) I (xFh h) n _ _ x y z trivial (t_X6_addStep_p l hst (setG g0 a) h I n hW x z2 y z)) (fun n' => c_X7_addStep_1 l (setG g0 a) h I n' (sNp h) h3 hz x y z z1)
  · obtain ⟨hA, hu9, hbu, -, -⟩ := hL.1.1.2.2.1 p hp
    have h8 := (hW.2.2 p hp).1
    have hs0 := hA.1
    have hs := hA.2
    have hY : (¬ z = -1 ∧ sIn z 0 (nI (sSz h p)) = false ∧ (z < 0 ∨ nI (sSz h p) ≤ z)) ∨ (∃ j : Nat, j < sSz h p ∧ z = nI j ∧ ¬ I [7, p, j] 0 = 115) ∨ (z = -1 ∨ ∃ j : Nat, j < sSz h p ∧ z = nI j ∧ I [7, p, j] 0 = 115) := by
      by_cases e : z = -1
      · exact Or.inr (Or.inr (Or.inl e))
      · rcases sIn_cases (x := z) (q := sSz h p) (by omega) with ⟨z1, z2⟩ | ⟨j, hj, rfl⟩
        · exact Or.inl ⟨e, z1, z2⟩
        · by_cases q : I [7, p, j] 0 = 115
          · exact Or.inr (Or.inr (Or.inr ⟨j, hj, rfl, q⟩))
          · exact Or.inr (Or.inl ⟨j, hj, rfl, q⟩)
    have fN : ∀ j, j < sSz h p → ¬ I [7, p, j] 0 = 115 → ¬ I [22, 0, p] j = 115 := fun j hj q => by rw [(hs j hj).1]; exact q
    have fY : ∀ j, j < sSz h p → I [7, p, j] 0 = 115 → I [22, 0, p] j = 115 := fun j hj q => (hs j hj).1.trans q
    by_cases k1 : y = 115 ∨ y = 116 ∨ y = 109
    · rcases hY with ⟨e, z1, z2⟩ | ⟨j, hj, rfl, q⟩ | hY
      · exact lwO.bad 2 0 (by decide) ⟨by omega, by omega, by omega, by omega⟩ (w_addStep_eIA l (setG g0 a) (xD h) I (xFh h) n _ _ (nI p) y z trivial (t_X6_addStep_q l hst (setG g0 a) h I n hW p hp y k1 z e z2)) (fun n' => c_X7_addStep_r l (setG g0 a) h I n' (sNp h) h3 hz p hp (sSz h p) h8 hs0 y z k1 (Or.inl ⟨e, z1⟩))
      · exact lwO.bad 2 0 (by decide) ⟨by omega, by omega, by omega, by omega⟩ (w_addStep_eIA l (setG g0 a) (xD h) I (xFh h) n _ _ (nI p) y (nI j) trivial (t_X6_addStep_r l hst (setG g0 a) h I n hW p hp y k1 j hj q)) (fun n' => c_X7_addStep_r l (setG g0 a) h I n' (sNp h) h3 hz p hp (sSz h p) h8 hs0 y (nI j) k1 (Or.inr ⟨j, hj, rfl, fN j hj q⟩))
      · have hYm : z = -1 ∨ (∃ j : Nat, j < sSz h p ∧ z = nI j ∧ I [22, 0, p] j = 115) := hY.imp_right (fun ⟨j, hj, e, q⟩ => ⟨j, hj, e, fY j hj q⟩)
        by_cases hu : I [5, p] 3 = 0
        · have hum : I [24, 9] p = 0 := hu9.trans hu
          by_cases hf : sSz h p = 8
          · rcases hY with rfl | ⟨j, hj, rfl, q⟩
            · exact lwO.bad 3 0 (by decide) ⟨by omega, by omega, by omega, by omega⟩ (w_addStep_eIS l (setG g0 a) (xD h) I (xFh h) n _ _ (nI p) y (-1) trivial (t_X6_addStep_fn l hst (setG g0 a) h I n hW p hp y k1 hu hf)) (fun n' => c_X7_addStep_f l (setG g0 a) h I n' (sNp h) h3 hz p hp (sSz h p) h8 hs0 y (-1) k1 hYm hum hf)
            · exact lwO.bad 3 0 (by decide) ⟨by omega, by omega, by omega, by omega⟩ (w_addStep_eIS l (setG g0 a) (xD h) I (xFh h) n _ _ (nI p) y (nI j) trivial (t_X6_addStep_ft l hst (setG g0 a) h I n hW p hp y k1 j hj q hu hf)) (fun n' => c_X7_addStep_f l (setG g0 a) h I n' (sNp h) h3 hz p hp (sSz h p) h8 hs0 y (nI j) k1 hYm hum hf)
          · have h8' : sSz h p < 8 := by omega
            have hch : narrow .char (.int y) = .int y := by rcases k1 with rfl | rfl | rfl <;> rfl
            obtain ⟨a', ha'⟩ : ∃ w, w = aI (aI (aI (aI (aI a [7, p, sSz h p] n) [8, p, sSz h p, 0] (n + 1)) [9, p, sSz h p, 0] (n + 2)) [8, p, sSz h p, 1] (n + 3)) [9, p, sSz h p, 1] (n + 4) := ⟨_, rfl⟩
            have a0 : a' [7, p, sSz h p] = n := by rw [ha', aI_ne (by simp), aI_ne (by simp), aI_ne (by simp), aI_ne (by simp), aI_at]
            have a1 : a' [8, p, sSz h p, 0] = n + 1 := by rw [ha', aI_ne (by simp), aI_ne (by simp), aI_ne (by simp), aI_at]
            have a2 : a' [9, p, sSz h p, 0] = n + 2 := by rw [ha', aI_ne (by simp), aI_ne (by simp), aI_at]
            have a3 : a' [8, p, sSz h p, 1] = n + 3 := by rw [ha', aI_ne (by simp), aI_at]
            have a4 : a' [9, p, sSz h p, 1] = n + 4 := by rw [ha', aI_at]
            have ae : ∀ id, ¬ (id = [7, p, sSz h p] ∨ id = [8, p, sSz h p, 0] ∨ id = [9, p, sSz h p, 0] ∨ id = [8, p, sSz h p, 1] ∨ id = [9, p, sSz h p, 1]) → a' id = a id := fun id w => by
              rw [not_or, not_or, not_or, not_or] at w
              rw [ha', aI_ne w.2.2.2.2, aI_ne w.2.2.2.1, aI_ne w.2.2.1, aI_ne w.2.1, aI_ne w.1]
            have hn : ∀ id, xD h id → ¬ (id = [7, p, sSz h p] ∨ id = [8, p, sSz h p, 0] ∨ id = [9, p, sSz h p, 0] ∨ id = [8, p, sSz h p, 1] ∨ id = [9, p, sSz h p, 1]) := by
              rintro id hi (rfl | rfl | rfl | rfl | rfl)
              · exact Nat.lt_irrefl _ hi.2
              · exact Nat.lt_irrefl _ hi.2.1
              · exact Nat.lt_irrefl _ hi.2.1
              · exact Nat.lt_irrefl _ hi.2.1
              · exact Nat.lt_irrefl _ hi.2.1
            have hp3 : p ≠ 3 := by omega
            have hz' : up (iSt h I p y z) [30] 0 (nI (sSz h p)) [20] 10 = nI (sNp h) := by rw [up_id (by simp)]; unfold iSt; rw [up_id (by simp), upR_id (by simp), upR_id (by simp), upR_id (by simp), upR_id (by simp), upR_id (by simp)]; exact hz
            have e8 : up (iSt h I p y z) [30] 0 (nI (sSz h p)) [24, 8] p = nI (sSz h p) := by rw [up_id (by simp)]; unfold iSt; rw [up_id (by simp), upR_id (by simp), upR_id (by simp), upR_id (by simp), upR_id (by simp), upR_id (by simp)]; exact hs0
            have e9 : up (iSt h I p y z) [30] 0 (nI (sSz h p)) [24, 9] p = 0 := by rw [up_id (by simp)]; unfold iSt; rw [up_id (by simp), upR_id (by simp), upR_id (by simp), upR_id (by simp), upR_id (by simp), upR_id (by simp)]; exact hum
            have e22 : ∀ j, up (iSt h I p y z) [30] 0 (nI (sSz h p)) [22, 0, p] j = I [22, 0, p] j := fun j => by rw [up_id (by simp)]; unfold iSt; rw [up_id (by simp), upR_id (by simp), upR_id (by simp), upR_id (by simp), upR_id (by simp), upR_id (by simp)]
            have k := c_X7_addStep l (setG g0 a') (hSt h p) (up (iSt h I p y z) [30] 0 (nI (sSz h p))) (n + 1 + 1 + 1 + 1 + 1) (sNp h) h3 hz' p hp (sSz h p) h8 e8 y z k1 (hYm.imp_right (fun ⟨j, hj, e, q⟩ => ⟨j, hj, e, (e22 j).trans q⟩)) e9 h8' hch
            have W6 : xM l yX6_addStep (xws yX6_addStep cX6_addStep 5 (some FieldType.int)) 3 55 (setG g0 a') [.ref (ga (setG g0 a') [0]), .int (nI p), .int y, .int z] (xR (setG g0 a') (xD h) I (xFh h) n) (some (.int (nI (sSz h p)))) (xR (setG g0 a') (xD (hSt h p)) (iSt h I p y z) (xFh (hSt h p)) (n + 1 + 1 + 1 + 1 + 1)) 5 17 := by
              rcases hY with rfl | ⟨j, hj, rfl, q⟩
              · exact c_X6_addStep_0 l (setG g0 a') h I n hW p hp hu h8' y k1 a0 a1 a2 a3 a4
              · exact c_X6_addStep_1 l (setG g0 a') h I n hW p hp hu h8' y k1 j hj q a0 a1 a2 a3 a4
            refine Or.inr ⟨a', hSt h p, I, up (iSt h I p y z) [30] 0 (nI (sSz h p)), mStp (up (iSt h I p y z) [30] 0 (nI (sSz h p))) p (sSz h p) y z, n + 1 + 1 + 1 + 1 + 1, jn, nI (sSz h p), _, _, _, _, 5, 17, fun id hi => ae id (hn id hi), ⟨by omega, by omega, by omega, by omega, by omega, by omega, by omega⟩, fun H hH => hL.new _ ae hn (fun j => by simp [Ne.symm hp3]) (fun f => by simp) (fun x y z => by simp) hH, w_addStep l (setG g0 a') (xD h) (xD (hSt h p)) I (iSt h I p y z) (xFh h) (xFh (hSt h p)) n (n + 1 + 1 + 1 + 1 + 1) _ _ 5 17 (nI p) y z (nI (sSz h p)) trivial trivial W6, k, ?_, ?_, fun z => by (cases z), hL.1.addStep hp hu h8' k1 (hY.imp_right (fun ⟨j, hj, e, q⟩ => ⟨j, hj, e, q⟩)) _, hL.2⟩
            · unfold mStp
              rw [up_id (by simp), up_id (by simp), up_id (by simp), up_id (by simp), up_id (by simp)]; exact up_at
            · unfold mStp
              rw [up_id (by simp), up_id (by simp), up_id (by simp), up_id (by simp), up_id (by simp), up_id (by simp)]; exact up_at
        · have hum : ¬ I [24, 9] p = 0 := by rw [hu9]; exact hu
          rcases hY with rfl | ⟨j, hj, rfl, q⟩
          · exact lwO.bad 3 0 (by decide) ⟨by omega, by omega, by omega, by omega⟩ (w_addStep_eIS l (setG g0 a) (xD h) I (xFh h) n _ _ (nI p) y (-1) trivial (t_X6_addStep_un l hst (setG g0 a) h I n hW p hp y k1 hu)) (fun n' => c_X7_addStep_u l (setG g0 a) h I n' (sNp h) h3 hz p hp (sSz h p) h8 hs0 y (-1) k1 hYm hum)
          · exact lwO.bad 3 0 (by decide) ⟨by omega, by omega, by omega, by omega⟩ (w_addStep_eIS l (setG g0 a) (xD h) I (xFh h) n _ _ (nI p) y (nI j) trivial (t_X6_addStep_ut l hst (setG g0 a) h I n hW p hp y k1 j hj q hu)) (fun n' => c_X7_addStep_u l (setG g0 a) h I n' (sNp h) h3 hz p hp (sSz h p) h8 hs0 y (nI j) k1 hYm hum)
    · rw [not_or, not_or] at k1
      exact lwO.bad 2 0 (by decide) ⟨by omega, by omega, by omega, by omega⟩ (w_addStep_eIA l (setG g0 a) (xD h) I (xFh h) n _ _ (nI p) y z trivial (t_X6_addStep_k l hst (setG g0 a) h I n hW p hp y z k1.1 k1.2.1 k1.2.2)) (fun n' => c_X7_addStep_k l (setG g0 a) h I n' (sNp h) h3 hz p hp (sSz h p) h8 hs0 y z k1.1 k1.2.1 k1.2.2 (by rcases hY with ⟨e, z1, -⟩ | ⟨j, hj, e, q⟩ | e | ⟨j, hj, e, q⟩; exact Or.inr (Or.inl ⟨e, z1⟩); exact Or.inr (Or.inr (Or.inl ⟨j, hj, e, fN j hj q⟩)); exact Or.inl e; exact Or.inr (Or.inr (Or.inr ⟨j, hj, e, fY j hj q⟩))))
set_option maxHeartbeats 1000000 in
theorem o_addEntry {l : Launch} (hst : l.stackTraces = false) {g0 : xG} {a : List Nat → Nat} {h : xS} {I : xI} {n jn : Nat} (hL : LW h I jn) (x y so b d : Int32) (hch : narrow .char (.int so) = .int so) (hfi : fits .char (.int so) = true) : lwO l g0 a h I n jn yL_addEntry cL_addEntry 8 [(0, 16, 19, 19), (0, 16, 23, 21), (0, 16, 27, 13)] yX7_addEntry cX7_addEntry 6 FieldType.int [.int x, .int y, .int so, .int b, .int d] := by
  have hW := hL.1.1.1
  have hC := hL.1.2.1.1
  have h3 := hW.1
  have n4 := hC.1
  have hm := hL.1.2.1.2.1
  have hz := hL.1.1.2.1
  rcases sIn_cases (x := x) (q := sNp h) (by omega) with ⟨z1, z2⟩ | ⟨p, hp, rfl⟩
  · exact lwO.bad 1 0 (by decide) ⟨by omega, by omega, by omega, by omega⟩ (w_addEntry_eIO l (setG g0 a) (xD h) I (xFh h) n _ _ x y so b d trivial (t_X6_addEntry_p l hst (setG g0 a) h I n hW x z2 y so b d)) (fun n' => c_X7_addEntry_p l (setG g0 a) h I n' (sNp h) h3 hz x y so b d z1)
  · obtain ⟨hA, hu9, hbu, -, -⟩ := hL.1.1.2.2.1 p hp
    have h8 := (hW.2.2 p hp).1
    have hs0 := hA.1
    have hs := hA.2
    rcases sIn_cases (x := y) (q := sSz h p) (by omega) with ⟨y1, y2⟩ | ⟨j, hj, rfl⟩
    · exact lwO.bad 1 0 (by decide) ⟨by omega, by omega, by omega, by omega⟩ (w_addEntry_eIO l (setG g0 a) (xD h) I (xFh h) n _ _ (nI p) y so b d trivial (t_X6_addEntry_s l hst (setG g0 a) h I n hW p hp y y2 so b d)) (fun n' => c_X7_addEntry_s l (setG g0 a) h I n' (sNp h) h3 hz p hp (sSz h p) h8 hs0 y so b d y1)
    · obtain ⟨r0, -, -, -, -, r5⟩ := hs j hj
      have hmm := (r5 0 (by omega)).1
      have hm3 := (((hW.2.2 p hp).2.2.2 j hj).2.2 0 (by omega)).2.1
      cases hd : sCond (sSz h p) so b d with
      | false => exact lwO.bad 2 0 (by decide) ⟨by omega, by omega, by omega, by omega⟩ (w_addEntry_eIA l (setG g0 a) (xD h) I (xFh h) n _ _ (nI p) (nI j) so b d trivial (t_X6_addEntry_d l hst (setG g0 a) h I n hW p hp j hj so b d hd)) (fun n' => c_X7_addEntry_d l (setG g0 a) h I n' (sNp h) h3 hz p hp (sSz h p) h8 hs0 j hj so b d hd)
      | true =>
        by_cases hu : I [5, p] 3 = 0
        · have hum : I [24, 9] p = 0 := hu9.trans hu
          by_cases hf : sCn h p j 0 = 3
          · exact lwO.bad 3 0 (by decide) ⟨by omega, by omega, by omega, by omega⟩ (w_addEntry_eIS l (setG g0 a) (xD h) I (xFh h) n _ _ (nI p) (nI j) so b d trivial (t_X6_addEntry_f l hst (setG g0 a) h I n hW p hp j hj so b d hd hu hf)) (fun n' => c_X7_addEntry_f l (setG g0 a) h I n' (sNp h) h3 hz p hp (sSz h p) h8 hs0 j hj so b d hd hum _ hmm hf)
          · have h3c : sCn h p j 0 < 3 := by omega
            obtain ⟨a', ha'⟩ : ∃ w, w = aI a [10, p, j, 0, sCn h p j 0] n := ⟨_, rfl⟩
            have a0 : a' [10, p, j, 0, sCn h p j 0] = n := by rw [ha', aI_at]
            have ae : ∀ id, ¬ (id = [10, p, j, 0, sCn h p j 0]) → a' id = a id := fun id w => by rw [ha', aI_ne w]
            have hn : ∀ id, xD h id → ¬ (id = [10, p, j, 0, sCn h p j 0]) := by
              rintro id hi rfl
              exact Nat.lt_irrefl _ hi.2.2.2
            have W6 := c_X6_addEntry l (setG g0 a') h I n hW p hp j hj hu h3c so b d hd hch hfi a0
            have k := c_X7_addEntry l (setG g0 a') (hCo h p j 0) (up (iCo h I p j 0 so b d) [30] 0 (nI (sCn h p j 0 + 1))) (n + 1) (sNp h) h3 (by rw [up_id (by simp)]; unfold iCo; rw [up_id (by simp), upR_id (by simp)]; exact hz) p hp (sSz h p) h8 (by rw [up_id (by simp)]; unfold iCo; rw [up_id (by simp), upR_id (by simp)]; exact hs0) j hj so b d hd (by rw [up_id (by simp)]; unfold iCo; rw [up_id (by simp), upR_id (by simp)]; exact hum) (sCn h p j 0) (by rw [up_id (by simp)]; unfold iCo; rw [up_id (by simp), upR_id (by simp)]; exact hmm) h3c hch
            refine Or.inr ⟨a', hCo h p j 0, I, (up (iCo h I p j 0 so b d) [30] 0 (nI (sCn h p j 0 + 1))), mAdd (up (up (iCo h I p j 0 so b d) [30] 0 (nI (sCn h p j 0 + 1))) [20] 23 0) p j 0 (sCn h p j 0) so b d, n + 1, jn, nI (sCn h p j 0 + 1), _, _, _, _, 1, 3, fun id hi => ae id (hn id hi), ⟨by omega, by omega, by omega, by omega, by omega, by omega, by omega⟩, fun H hH => hL.new _ ae hn (fun j => by simp) (fun f => by simp) (fun x y z => by simp) hH, w_addEntry l (setG g0 a') (xD h) (xD (hCo h p j 0)) I (iCo h I p j 0 so b d) (xFh h) (xFh (hCo h p j 0)) n (n + 1) _ _ 1 3 (nI p) (nI j) so b d (nI (sCn h p j 0 + 1)) trivial trivial W6, k, ?_, ?_, fun z => by (cases z), hL.1.addCond hp hj (by omega) hu h3c hd _ _, hL.2⟩
            · unfold mAdd
              rw [up_id (by simp), up_id (by simp), up_id (by simp), up_id (by simp)]; exact up_at
            · unfold mAdd
              rw [up_id (by simp), up_id (by simp), up_id (by simp), up_id (by simp), up_id (by simp)]; exact up_at
        · exact lwO.bad 3 0 (by decide) ⟨by omega, by omega, by omega, by omega⟩ (w_addEntry_eIS l (setG g0 a) (xD h) I (xFh h) n _ _ (nI p) (nI j) so b d trivial (t_X6_addEntry_u l hst (setG g0 a) h I n hW p hp j hj so b d hd hu)) (fun n' => c_X7_addEntry_u l (setG g0 a) h I n' (sNp h) h3 hz p hp (sSz h p) h8 hs0 j hj so b d hd (by rw [hu9]; exact hu))
set_option maxHeartbeats 1000000 in
theorem o_addExit {l : Launch} (hst : l.stackTraces = false) {g0 : xG} {a : List Nat → Nat} {h : xS} {I : xI} {n jn : Nat} (hL : LW h I jn) (x y so b d : Int32) (hch : narrow .char (.int so) = .int so) (hfi : fits .char (.int so) = true) : lwO l g0 a h I n jn yL_addExit cL_addExit 8 [(0, 16, 19, 19), (0, 16, 23, 21), (0, 16, 27, 30), (0, 16, 31, 13)] yX7_addExit cX7_addExit 6 FieldType.int [.int x, .int y, .int so, .int b, .int d] := by
  have hW := hL.1.1.1
  have hC := hL.1.2.1.1
  have h3 := hW.1
  have n4 := hC.1
  have hm := hL.1.2.1.2.1
  have hz := hL.1.1.2.1
  rcases sIn_cases (x := x) (q := sNp h) (by omega) with ⟨z1, z2⟩ | ⟨p, hp, rfl⟩
  · exact lwO.bad 1 0 (by decide) ⟨by omega, by omega, by omega, by omega⟩ (w_addExit_eIO l (setG g0 a) (xD h) I (xFh h) n _ _ x y so b d trivial (t_X6_addExit_p l hst (setG g0 a) h I n hW x z2 y so b d)) (fun n' => c_X7_addExit_p l (setG g0 a) h I n' (sNp h) h3 hz x y so b d z1)
  · obtain ⟨hA, hu9, hbu, -, -⟩ := hL.1.1.2.2.1 p hp
    have h8 := (hW.2.2 p hp).1
    have hs0 := hA.1
    have hs := hA.2
    rcases sIn_cases (x := y) (q := sSz h p) (by omega) with ⟨y1, y2⟩ | ⟨j, hj, rfl⟩
    · exact lwO.bad 1 0 (by decide) ⟨by omega, by omega, by omega, by omega⟩ (w_addExit_eIO l (setG g0 a) (xD h) I (xFh h) n _ _ (nI p) y so b d trivial (t_X6_addExit_s l hst (setG g0 a) h I n hW p hp y y2 so b d)) (fun n' => c_X7_addExit_s l (setG g0 a) h I n' (sNp h) h3 hz p hp (sSz h p) h8 hs0 y so b d y1)
    · obtain ⟨r0, -, -, -, -, r5⟩ := hs j hj
      have hmm := (r5 1 (by omega)).1
      have hm3 := (((hW.2.2 p hp).2.2.2 j hj).2.2 1 (by omega)).2.1
      cases hd : sCond (sSz h p) so b d with
      | false => exact lwO.bad 2 0 (by decide) ⟨by omega, by omega, by omega, by omega⟩ (w_addExit_eIA l (setG g0 a) (xD h) I (xFh h) n _ _ (nI p) (nI j) so b d trivial (t_X6_addExit_d l hst (setG g0 a) h I n hW p hp j hj so b d hd)) (fun n' => c_X7_addExit_d l (setG g0 a) h I n' (sNp h) h3 hz p hp (sSz h p) h8 hs0 j hj so b d hd)
      | true =>
        by_cases hk : I [7, p, j] 0 = 109
        · exact lwO.bad 3 0 (by decide) ⟨by omega, by omega, by omega, by omega⟩ (w_addExit_eUO l (setG g0 a) (xD h) I (xFh h) n _ _ (nI p) (nI j) so b d trivial (t_X6_addExit_m l hst (setG g0 a) h I n hW p hp j hj so b d hd hk)) (fun n' => c_X7_addExit_m l (setG g0 a) h I n' (sNp h) h3 hz p hp (sSz h p) h8 hs0 j hj so b d hd (r0.trans hk))
        · have hkm : ¬ I [22, 0, p] j = 109 := by rw [r0]; exact hk
          by_cases hu : I [5, p] 3 = 0
          · have hum : I [24, 9] p = 0 := hu9.trans hu
            by_cases hf : sCn h p j 1 = 3
            · exact lwO.bad 4 0 (by decide) ⟨by omega, by omega, by omega, by omega⟩ (w_addExit_eIS l (setG g0 a) (xD h) I (xFh h) n _ _ (nI p) (nI j) so b d trivial (t_X6_addExit_f l hst (setG g0 a) h I n hW p hp j hj so b d hd hk hu hf)) (fun n' => c_X7_addExit_f l (setG g0 a) h I n' (sNp h) h3 hz p hp (sSz h p) h8 hs0 j hj so b d hd hkm hum _ hmm hf)
            · have h3c : sCn h p j 1 < 3 := by omega
              obtain ⟨a', ha'⟩ : ∃ w, w = aI a [10, p, j, 1, sCn h p j 1] n := ⟨_, rfl⟩
              have a0 : a' [10, p, j, 1, sCn h p j 1] = n := by rw [ha', aI_at]
              have ae : ∀ id, ¬ (id = [10, p, j, 1, sCn h p j 1]) → a' id = a id := fun id w => by rw [ha', aI_ne w]
              have hn : ∀ id, xD h id → ¬ (id = [10, p, j, 1, sCn h p j 1]) := by
                rintro id hi rfl
                exact Nat.lt_irrefl _ hi.2.2.2
              have W6 := c_X6_addExit l (setG g0 a') h I n hW p hp j hj hu h3c so b d hd hch hfi hk a0
              have k := c_X7_addExit l (setG g0 a') (hCo h p j 1) (up (iCo h I p j 1 so b d) [30] 0 (nI (sCn h p j 1 + 1))) (n + 1) (sNp h) h3 (by rw [up_id (by simp)]; unfold iCo; rw [up_id (by simp), upR_id (by simp)]; exact hz) p hp (sSz h p) h8 (by rw [up_id (by simp)]; unfold iCo; rw [up_id (by simp), upR_id (by simp)]; exact hs0) j hj so b d hd (by rw [up_id (by simp)]; unfold iCo; rw [up_id (by simp), upR_id (by simp)]; exact hkm) (by rw [up_id (by simp)]; unfold iCo; rw [up_id (by simp), upR_id (by simp)]; exact hum) (sCn h p j 1) (by rw [up_id (by simp)]; unfold iCo; rw [up_id (by simp), upR_id (by simp)]; exact hmm) h3c hch
              refine Or.inr ⟨a', hCo h p j 1, I, (up (iCo h I p j 1 so b d) [30] 0 (nI (sCn h p j 1 + 1))), mAdd (up (up (iCo h I p j 1 so b d) [30] 0 (nI (sCn h p j 1 + 1))) [20] 23 0) p j 1 (sCn h p j 1) so b d, n + 1, jn, nI (sCn h p j 1 + 1), _, _, _, _, 1, 3, fun id hi => ae id (hn id hi), ⟨by omega, by omega, by omega, by omega, by omega, by omega, by omega⟩, fun H hH => hL.new _ ae hn (fun j => by simp) (fun f => by simp) (fun x y z => by simp) hH, w_addExit l (setG g0 a') (xD h) (xD (hCo h p j 1)) I (iCo h I p j 1 so b d) (xFh h) (xFh (hCo h p j 1)) n (n + 1) _ _ 1 3 (nI p) (nI j) so b d (nI (sCn h p j 1 + 1)) trivial trivial W6, k, ?_, ?_, fun z => by (cases z), hL.1.addCond hp hj (by omega) hu h3c hd _ _, hL.2⟩
              · unfold mAdd
                rw [up_id (by simp), up_id (by simp), up_id (by simp), up_id (by simp)]; exact up_at
              · unfold mAdd
                rw [up_id (by simp), up_id (by simp), up_id (by simp), up_id (by simp), up_id (by simp)]; exact up_at
          · exact lwO.bad 4 0 (by decide) ⟨by omega, by omega, by omega, by omega⟩ (w_addExit_eIS l (setG g0 a) (xD h) I (xFh h) n _ _ (nI p) (nI j) so b d trivial (t_X6_addExit_u l hst (setG g0 a) h I n hW p hp j hj so b d hd hk hu)) (fun n' => c_X7_addExit_u l (setG g0 a) h I n' (sNp h) h3 hz p hp (sSz h p) h8 hs0 j hj so b d hd hkm (by rw [hu9]; exact hu))
set_option maxHeartbeats 1000000 in
theorem o_setRequired {l : Launch} (hst : l.stackTraces = false) {g0 : xG} {a : List Nat → Nat} {h : xS} {I : xI} {n jn : Nat} (hL : LW h I jn) (x y v : Int32) (hv : sBo v) : lwO l g0 a h I n jn yL_setRequired cL_setRequired 6 [(0, 19, 22, 19), (0, 19, 26, 30), (0, 19, 30, 13)] yX7_setRequired cX7_setRequired 4 FieldType.boolean [.int x, .int y, .int v] := by
  have hW := hL.1.1.1
  have hC := hL.1.2.1.1
  have h3 := hW.1
  have n4 := hC.1
  have hm := hL.1.2.1.2.1
  have hz := hL.1.1.2.1
  rcases sIn_cases (x := x) (q := sNp h) (by omega) with ⟨z1, z2⟩ | ⟨p, hp, rfl⟩
  · exact lwO.bad 1 0 (by decide) ⟨by omega, by omega, by omega, by omega⟩ (w_setRequired_eIO l (setG g0 a) (xD h) I (xFh h) n _ _ x y v trivial (t_X6_setRequired_p l hst (setG g0 a) h I n hW x z2 y v)) (fun n' => c_X7_setRequired_p l (setG g0 a) h I n' (sNp h) h3 hz x y v z1)
  · obtain ⟨hA, hu9, hbu, hfl, -⟩ := hL.1.1.2.2.1 p hp
    have h8 := (hW.2.2 p hp).1
    have hs0 := hA.1
    have hs := hA.2
    rcases sIn_cases (x := y) (q := sSz h p) (by omega) with ⟨y1, y2⟩ | ⟨j, hj, rfl⟩
    · exact lwO.bad 1 0 (by decide) ⟨by omega, by omega, by omega, by omega⟩ (w_setRequired_eIO l (setG g0 a) (xD h) I (xFh h) n _ _ (nI p) y v trivial (t_X6_setRequired_s l hst (setG g0 a) h I n hW p hp y y2 v)) (fun n' => c_X7_setRequired_s l (setG g0 a) h I n' (sNp h) h3 hz p hp (sSz h p) h8 hs0 y v y1)
    · obtain ⟨r0, -, r2, r3, r4, -⟩ := hs j hj
      obtain ⟨f4, f6, f51, f52⟩ := hfl j hj
      by_cases hk : I [7, p, j] 0 = 116
      · by_cases hu : I [5, p] 3 = 0
        · have e2 : (up (up I [7, p, j] 4 v) [30] 0 (I [7, p, j] 4)) [22, 2, p] j = (I [7, p, j] 4) := (by rw [up_id (by simp), up_id (by simp)]; exact (r2 hk))
          have k := c_X7_setRequired l (setG g0 a) h (up (up I [7, p, j] 4 v) [30] 0 (I [7, p, j] 4)) n (sNp h) h3 (by rw [up_id (by simp), up_id (by simp)]; exact hz) p hp (sSz h p) h8 (by rw [up_id (by simp), up_id (by simp)]; exact hs0) j hj v (by rw [up_id (by simp), up_id (by simp)]; exact (r0.trans hk)) (by rw [up_id (by simp), up_id (by simp)]; exact (hu9.trans hu)) hv (by rw [e2]; exact f4)
          rw [e2] at k
          exact lwO.good h (up (up I [7, p, j] 4 v) [30] 0 (I [7, p, j] 4)) (up (up (up (up I [7, p, j] 4 v) [30] 0 (I [7, p, j] 4)) [20] 23 0) [22, 2, p] j v) jn (I [7, p, j] 4) ⟨by omega, by omega, by omega, by omega⟩ (by omega) (w_setRequired l (setG g0 a) (xD h) (xD h) I (up I [7, p, j] 4 v) (xFh h) (xFh h) n n _ _ 0 0 (nI p) (nI j) v (I [7, p, j] 4) f4 trivial trivial (c_X6_setRequired l (setG g0 a) h I n hW p hp j hj v hk hu hv f4)) k (by rw [up_id (by simp)]; exact up_at) (by rw [up_id (by simp), up_id (by simp)]; exact up_at) ⟨hL.1.flagR hp hj hu hk hv _ _, hL.2⟩ (fun _ => f4)
        · exact lwO.bad 3 0 (by decide) ⟨by omega, by omega, by omega, by omega⟩ (w_setRequired_eIS l (setG g0 a) (xD h) I (xFh h) n _ _ (nI p) (nI j) v trivial (t_X6_setRequired_u l hst (setG g0 a) h I n hW p hp j hj v hk hu)) (fun n' => c_X7_setRequired_u l (setG g0 a) h I n' (sNp h) h3 hz p hp (sSz h p) h8 hs0 j hj v (r0.trans hk) (by rw [hu9]; exact hu))
      · exact lwO.bad 2 0 (by decide) ⟨by omega, by omega, by omega, by omega⟩ (w_setRequired_eUO l (setG g0 a) (xD h) I (xFh h) n _ _ (nI p) (nI j) v trivial (t_X6_setRequired_k l hst (setG g0 a) h I n hW p hp j hj v hk)) (fun n' => c_X7_setRequired_k l (setG g0 a) h I n' (sNp h) h3 hz p hp (sSz h p) h8 hs0 j hj v (by rw [r0]; exact hk))
set_option maxHeartbeats 1000000 in
theorem o_setAgain {l : Launch} (hst : l.stackTraces = false) {g0 : xG} {a : List Nat → Nat} {h : xS} {I : xI} {n jn : Nat} (hL : LW h I jn) (x y v : Int32) (hv : sBo v) : lwO l g0 a h I n jn yL_setAgain cL_setAgain 6 [(0, 19, 22, 19), (0, 19, 26, 30), (0, 19, 30, 13)] yX7_setAgain cX7_setAgain 4 FieldType.boolean [.int x, .int y, .int v] := by
  have hW := hL.1.1.1
  have hC := hL.1.2.1.1
  have h3 := hW.1
  have n4 := hC.1
  have hm := hL.1.2.1.2.1
  have hz := hL.1.1.2.1
  rcases sIn_cases (x := x) (q := sNp h) (by omega) with ⟨z1, z2⟩ | ⟨p, hp, rfl⟩
  · exact lwO.bad 1 0 (by decide) ⟨by omega, by omega, by omega, by omega⟩ (w_setAgain_eIO l (setG g0 a) (xD h) I (xFh h) n _ _ x y v trivial (t_X6_setAgain_p l hst (setG g0 a) h I n hW x z2 y v)) (fun n' => c_X7_setAgain_p l (setG g0 a) h I n' (sNp h) h3 hz x y v z1)
  · obtain ⟨hA, hu9, hbu, hfl, -⟩ := hL.1.1.2.2.1 p hp
    have h8 := (hW.2.2 p hp).1
    have hs0 := hA.1
    have hs := hA.2
    rcases sIn_cases (x := y) (q := sSz h p) (by omega) with ⟨y1, y2⟩ | ⟨j, hj, rfl⟩
    · exact lwO.bad 1 0 (by decide) ⟨by omega, by omega, by omega, by omega⟩ (w_setAgain_eIO l (setG g0 a) (xD h) I (xFh h) n _ _ (nI p) y v trivial (t_X6_setAgain_s l hst (setG g0 a) h I n hW p hp y y2 v)) (fun n' => c_X7_setAgain_s l (setG g0 a) h I n' (sNp h) h3 hz p hp (sSz h p) h8 hs0 y v y1)
    · obtain ⟨r0, -, r2, r3, r4, -⟩ := hs j hj
      obtain ⟨f4, f6, f51, f52⟩ := hfl j hj
      by_cases hk : I [7, p, j] 0 = 109
      · by_cases hu : I [5, p] 3 = 0
        · have e2 : (up (up I [7, p, j] 6 v) [30] 0 (I [7, p, j] 6)) [22, 2, p] j = (I [7, p, j] 6) := (by rw [up_id (by simp), up_id (by simp)]; exact (r3 hk))
          have k := c_X7_setAgain l (setG g0 a) h (up (up I [7, p, j] 6 v) [30] 0 (I [7, p, j] 6)) n (sNp h) h3 (by rw [up_id (by simp), up_id (by simp)]; exact hz) p hp (sSz h p) h8 (by rw [up_id (by simp), up_id (by simp)]; exact hs0) j hj v (by rw [up_id (by simp), up_id (by simp)]; exact (r0.trans hk)) (by rw [up_id (by simp), up_id (by simp)]; exact (hu9.trans hu)) hv (by rw [e2]; exact f6)
          rw [e2] at k
          exact lwO.good h (up (up I [7, p, j] 6 v) [30] 0 (I [7, p, j] 6)) (up (up (up (up I [7, p, j] 6 v) [30] 0 (I [7, p, j] 6)) [20] 23 0) [22, 2, p] j v) jn (I [7, p, j] 6) ⟨by omega, by omega, by omega, by omega⟩ (by omega) (w_setAgain l (setG g0 a) (xD h) (xD h) I (up I [7, p, j] 6 v) (xFh h) (xFh h) n n _ _ 0 0 (nI p) (nI j) v (I [7, p, j] 6) f6 trivial trivial (c_X6_setAgain l (setG g0 a) h I n hW p hp j hj v hk hu hv f6)) k (by rw [up_id (by simp)]; exact up_at) (by rw [up_id (by simp), up_id (by simp)]; exact up_at) ⟨hL.1.flagA hp hj hu hk hv _ _, hL.2⟩ (fun _ => f6)
        · exact lwO.bad 3 0 (by decide) ⟨by omega, by omega, by omega, by omega⟩ (w_setAgain_eIS l (setG g0 a) (xD h) I (xFh h) n _ _ (nI p) (nI j) v trivial (t_X6_setAgain_u l hst (setG g0 a) h I n hW p hp j hj v hk hu)) (fun n' => c_X7_setAgain_u l (setG g0 a) h I n' (sNp h) h3 hz p hp (sSz h p) h8 hs0 j hj v (r0.trans hk) (by rw [hu9]; exact hu))
      · exact lwO.bad 2 0 (by decide) ⟨by omega, by omega, by omega, by omega⟩ (w_setAgain_eUO l (setG g0 a) (xD h) I (xFh h) n _ _ (nI p) (nI j) v trivial (t_X6_setAgain_k l hst (setG g0 a) h I n hW p hp j hj v hk)) (fun n' => c_X7_setAgain_k l (setG g0 a) h I n' (sNp h) h3 hz p hp (sSz h p) h8 hs0 j hj v (by rw [r0]; exact hk))
set_option maxHeartbeats 1000000 in
theorem o_setLimit {l : Launch} (hst : l.stackTraces = false) {g0 : xG} {a : List Nat → Nat} {h : xS} {I : xI} {n jn : Nat} (hL : LW h I jn) (x y v : Int32) : lwO l g0 a h I n jn yL_setLimit cL_setLimit 6 [(0, 12, 15, 19), (0, 12, 19, 21), (0, 12, 23, 30), (0, 12, 27, 13)] yX7_setLimit cX7_setLimit 5 FieldType.int [.int x, .int y, .int v] := by
  have hW := hL.1.1.1
  have hC := hL.1.2.1.1
  have h3 := hW.1
  have n4 := hC.1
  have hm := hL.1.2.1.2.1
  have hz := hL.1.1.2.1
  rcases sIn_cases (x := x) (q := sNp h) (by omega) with ⟨z1, z2⟩ | ⟨p, hp, rfl⟩
  · exact lwO.bad 1 0 (by decide) ⟨by omega, by omega, by omega, by omega⟩ (w_setLimit_eIO l (setG g0 a) (xD h) I (xFh h) n _ _ x y v trivial (t_X6_setLimit_p l hst (setG g0 a) h I n hW x z2 y v)) (fun n' => c_X7_setLimit_p l (setG g0 a) h I n' (sNp h) h3 hz x y v z1)
  · obtain ⟨hA, hu9, hbu, hfl, -⟩ := hL.1.1.2.2.1 p hp
    have h8 := (hW.2.2 p hp).1
    have hs0 := hA.1
    have hs := hA.2
    rcases sIn_cases (x := y) (q := sSz h p) (by omega) with ⟨y1, y2⟩ | ⟨j, hj, rfl⟩
    · exact lwO.bad 1 0 (by decide) ⟨by omega, by omega, by omega, by omega⟩ (w_setLimit_eIO l (setG g0 a) (xD h) I (xFh h) n _ _ (nI p) y v trivial (t_X6_setLimit_s l hst (setG g0 a) h I n hW p hp y y2 v)) (fun n' => c_X7_setLimit_s l (setG g0 a) h I n' (sNp h) h3 hz p hp (sSz h p) h8 hs0 y v y1)
    · obtain ⟨r0, -, r2, r3, r4, -⟩ := hs j hj
      obtain ⟨f4, f6, f51, f52⟩ := hfl j hj
      by_cases v1 : v < 1
      · exact lwO.bad 2 0 (by decide) ⟨by omega, by omega, by omega, by omega⟩ (w_setLimit_eIA l (setG g0 a) (xD h) I (xFh h) n _ _ (nI p) (nI j) v trivial (t_X6_setLimit_l l hst (setG g0 a) h I n hW p hp j hj v v1)) (fun n' => c_X7_setLimit_l l (setG g0 a) h I n' (sNp h) h3 hz p hp (sSz h p) h8 hs0 j hj v (by unfold mIn; rw [decide_eq_false (Int32.not_le.mpr v1)]; rfl))
      by_cases v2 : 99 < v
      · exact lwO.bad 2 0 (by decide) ⟨by omega, by omega, by omega, by omega⟩ (w_setLimit_eIA l (setG g0 a) (xD h) I (xFh h) n _ _ (nI p) (nI j) v trivial (t_X6_setLimit_h l hst (setG g0 a) h I n hW p hp j hj v v1 v2)) (fun n' => c_X7_setLimit_l l (setG g0 a) h I n' (sNp h) h3 hz p hp (sSz h p) h8 hs0 j hj v (by unfold mIn; rw [decide_eq_false (Int32.not_le.mpr v2)]; exact Bool.and_false _))
      have v12 : mIn v 1 99 = true := by unfold mIn; rw [decide_eq_true (Int32.not_lt.mp v1), decide_eq_true (Int32.not_lt.mp v2)]; rfl
      by_cases hk : I [7, p, j] 0 = 116
      · by_cases hu : I [5, p] 3 = 0
        · have e2 : (up (up I [7, p, j] 5 v) [30] 0 (I [7, p, j] 5)) [22, 3, p] j = (I [7, p, j] 5) := (by rw [up_id (by simp), up_id (by simp)]; exact r4)
          have k := c_X7_setLimit l (setG g0 a) h (up (up I [7, p, j] 5 v) [30] 0 (I [7, p, j] 5)) n (sNp h) h3 (by rw [up_id (by simp), up_id (by simp)]; exact hz) p hp (sSz h p) h8 (by rw [up_id (by simp), up_id (by simp)]; exact hs0) j hj v v12 (by rw [up_id (by simp), up_id (by simp)]; exact (r0.trans hk)) (by rw [up_id (by simp), up_id (by simp)]; exact (hu9.trans hu))
          rw [e2] at k
          exact lwO.good h (up (up I [7, p, j] 5 v) [30] 0 (I [7, p, j] 5)) (up (up (up (up I [7, p, j] 5 v) [30] 0 (I [7, p, j] 5)) [20] 23 0) [22, 3, p] j v) jn (I [7, p, j] 5) ⟨by omega, by omega, by omega, by omega⟩ (by omega) (w_setLimit l (setG g0 a) (xD h) (xD h) I (up I [7, p, j] 5 v) (xFh h) (xFh h) n n _ _ 0 0 (nI p) (nI j) v (I [7, p, j] 5) trivial trivial (c_X6_setLimit l (setG g0 a) h I n hW p hp j hj v v1 v2 hk hu)) k (by rw [up_id (by simp)]; exact up_at) (by rw [up_id (by simp), up_id (by simp)]; exact up_at) ⟨hL.1.flagL hp hj hu (Int32.not_lt.mp v1) (Int32.not_lt.mp v2) _ _, hL.2⟩
        · exact lwO.bad 4 0 (by decide) ⟨by omega, by omega, by omega, by omega⟩ (w_setLimit_eIS l (setG g0 a) (xD h) I (xFh h) n _ _ (nI p) (nI j) v trivial (t_X6_setLimit_u l hst (setG g0 a) h I n hW p hp j hj v v1 v2 hk hu)) (fun n' => c_X7_setLimit_u l (setG g0 a) h I n' (sNp h) h3 hz p hp (sSz h p) h8 hs0 j hj v v12 (r0.trans hk) (by rw [hu9]; exact hu))
      · exact lwO.bad 3 0 (by decide) ⟨by omega, by omega, by omega, by omega⟩ (w_setLimit_eUO l (setG g0 a) (xD h) I (xFh h) n _ _ (nI p) (nI j) v trivial (t_X6_setLimit_k l hst (setG g0 a) h I n hW p hp j hj v v1 v2 hk)) (fun n' => c_X7_setLimit_k l (setG g0 a) h I n' (sNp h) h3 hz p hp (sSz h p) h8 hs0 j hj v v12 (by rw [r0]; exact hk))
