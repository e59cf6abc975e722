/-! THE LAW: its start -/
abbrev h00 : xS := (0, 0, fun _ => 0, fun _ _ _ => 0, fun _ => 3, 0)
theorem LW0 {I : xI} (z : ∀ id, id ≠ [11, 4, 0] → id ≠ [5, 3] → I id = fun _ => 0) : LW h00 I 0 := by
  have no : ∀ {k : Nat} {P : Prop}, k < 0 → P := fun hk => absurd hk (Nat.not_lt_zero _)
  refine ⟨⟨⟨⟨Nat.zero_le _, ?_, fun p hp => no hp⟩, fun p hp => no hp⟩, ⟨⟨Nat.zero_le _, ?_, fun c hc => no hc⟩, fun c hc => no hc⟩, fun c hc => no hc, ⟨?_, ⟨fun r hr => no hr, fun r hr => no hr, fun r hr => no hr⟩, fun c hc => no hc⟩, fun k => ?_⟩, Or.inr rfl⟩
  · rw [z [0] (by simp) (by simp)]; rfl
  · rw [z [0] (by simp) (by simp)]; rfl
  · rw [z [3] (by simp) (by simp)]; rfl
  · show narrow .char (.int (I [11, 4, 2] k)) = .int (I [11, 4, 2] k)
    rw [z [11, 4, 2] (by simp) (by simp)]; rfl
def aSt (N : Nat) (id : List Nat) : Nat := match id with
  | [0] => N
  | [1] => N + 1
  | [2] => N + 1 + 1
  | [3] => N + 1 + 2
  | [4, 0] => N + 1 + 3
  | [4, 1] => N + 1 + 4
  | [4, 2] => N + 1 + 5
  | [4, 3] => N + 1 + 6
  | [11, 4, 0] => N + 1 + 7
  | [5, 3] => N + 1 + 8
  | [6, 3] => N + 1 + 9
  | [11, 4, 1] => N + 1 + 10
  | [11, 4, 2] => N + 1 + 11
  | [11, 4, 3] => N + 1 + 12
  | [11, 4, 4] => N + 1 + 13
  | [11, 4, 5] => N + 1 + 14
  | _ => N
abbrev sD6 (dm : List Nat → Prop) : List Nat → Prop := (fun i => i = [11, 4, 5] ∨ (fun i => i = [11, 4, 4] ∨ (fun i => i = [11, 4, 3] ∨ (fun i => i = [11, 4, 2] ∨ (fun i => i = [11, 4, 1] ∨ (fun i => i = [6, 3] ∨ (fun i => i = [5, 3] ∨ (fun i => i = [11, 4, 0] ∨ (fun i => i = [4, 3] ∨ (fun i => i = [4, 2] ∨ (fun i => i = [4, 1] ∨ (fun i => i = [4, 0] ∨ (fun i => i = [3] ∨ (fun i => i = [2] ∨ (fun i => i = [1] ∨ dm i) i) i) i) i) i) i) i) i) i) i) i) i) i) i)
abbrev sI6 (I : xI) : xI := upR (upR (upR (upR (upR (upR (upR (upR (upR (upR (upR (upR (upR (upR (upR (upR I [0] r0) [1] r0) [2] r0) [3] r0) [4, 0] r0) [4, 1] r0) [4, 2] r0) [4, 3] r0) [11, 4, 0] rK) [5, 3] (rP (-1))) [6, 3] r0) [11, 4, 1] r0) [11, 4, 2] r0) [11, 4, 3] r0) [11, 4, 4] r0) [11, 4, 5] r0
abbrev sF6 (F : xF) : xF := upR (upR (upR (upR (upR (upR (upR (upR (upR (upR (upR (upR (upR (upR (upR (upR F [0] qM) [1] q0) [2] q0) [3] qJ) [4, 0] q0) [4, 1] q0) [4, 2] q0) [4, 3] q0) [11, 4, 0] (qK 4 [5, 3])) [5, 3] (q1 1 [6, 3])) [6, 3] q0) [11, 4, 1] q0) [11, 4, 2] q0) [11, 4, 3] q0) [11, 4, 4] q0) [11, 4, 5] q0
abbrev sDz : List Nat → Prop := sD6 (fun i => i = [0] ∨ (fun _ => False) i)
theorem sDz_all (i : List Nat) (hi : xD h00 i) : sDz i := by
  have no : ∀ {k : Nat} {P : Prop}, k < 0 → P := fun hk => absurd hk (Nat.not_lt_zero _)
  unfold xD at hi
  split at hi
  · exact (Or.inr (Or.inr (Or.inr (Or.inr (Or.inr (Or.inr (Or.inr (Or.inr (Or.inr (Or.inr (Or.inr (Or.inr (Or.inr (Or.inr (Or.inr (Or.inl rfl))))))))))))))))
  · exact (Or.inr (Or.inr (Or.inr (Or.inr (Or.inr (Or.inr (Or.inr (Or.inr (Or.inr (Or.inr (Or.inr (Or.inr (Or.inr (Or.inr (Or.inl rfl)))))))))))))))
  · exact (Or.inr (Or.inr (Or.inr (Or.inr (Or.inr (Or.inr (Or.inr (Or.inr (Or.inr (Or.inr (Or.inr (Or.inr (Or.inr (Or.inl rfl))))))))))))))
  · exact (Or.inr (Or.inr (Or.inr (Or.inr (Or.inr (Or.inr (Or.inr (Or.inr (Or.inr (Or.inr (Or.inr (Or.inr (Or.inl rfl)))))))))))))
  · rename_i q
    rcases (show q = 0 ∨ q = 1 ∨ q = 2 ∨ q = 3 by omega) with rfl | rfl | rfl | rfl
    · exact (Or.inr (Or.inr (Or.inr (Or.inr (Or.inr (Or.inr (Or.inr (Or.inr (Or.inr (Or.inr (Or.inr (Or.inl rfl))))))))))))
    · exact (Or.inr (Or.inr (Or.inr (Or.inr (Or.inr (Or.inr (Or.inr (Or.inr (Or.inr (Or.inr (Or.inl rfl)))))))))))
    · exact (Or.inr (Or.inr (Or.inr (Or.inr (Or.inr (Or.inr (Or.inr (Or.inr (Or.inr (Or.inl rfl))))))))))
    · exact (Or.inr (Or.inr (Or.inr (Or.inr (Or.inr (Or.inr (Or.inr (Or.inr (Or.inl rfl)))))))))
  · rcases hi with hi | rfl
    · exact no hi
    · exact (Or.inr (Or.inr (Or.inr (Or.inr (Or.inr (Or.inr (Or.inl rfl)))))))
  · rcases hi with hi | rfl
    · exact no hi
    · exact (Or.inr (Or.inr (Or.inr (Or.inr (Or.inr (Or.inl rfl))))))
  · exact no hi.1
  · exact no hi.1
  · exact no hi.1
  · exact no hi.1
  · rename_i c f
    obtain ⟨hc, hf⟩ := hi
    rcases hc with hc | rfl
    · exact no hc
    · rcases (show f = 0 ∨ f = 1 ∨ f = 2 ∨ f = 3 ∨ f = 4 ∨ f = 5 by omega) with rfl | rfl | rfl | rfl | rfl | rfl
      · exact (Or.inr (Or.inr (Or.inr (Or.inr (Or.inr (Or.inr (Or.inr (Or.inl rfl))))))))
      · exact (Or.inr (Or.inr (Or.inr (Or.inr (Or.inl rfl)))))
      · exact (Or.inr (Or.inr (Or.inr (Or.inl rfl))))
      · exact (Or.inr (Or.inr (Or.inl rfl)))
      · exact (Or.inr (Or.inl rfl))
      · exact (Or.inl rfl)
  · exact absurd (show 1 ≤ 0 from hi) (by omega)
  · exact absurd (show 2 ≤ 0 from hi) (by omega)
  · exact hi.elim
abbrev sFz : xF := sF6 (upR (xFh h00) [0] (fun _ => none))
theorem sFz_all (i : List Nat) : xFh h00 i = sFz i := by
  have up1 : ∀ (f : xF) (j : List Nat) (r : Nat → Option (List Nat)), (i = j → xFh h00 j = r) → (i ≠ j → xFh h00 i = f i) → xFh h00 i = upR f j r i := fun f j r h1 h2 => by
    by_cases z : i = j
    · subst z; exact (h1 rfl).trans upR_at.symm
    · exact (h2 z).trans (upR_id z).symm
  refine up1 _ _ _ (fun _ => rfl) (fun _ => ?_)
  refine up1 _ _ _ (fun _ => rfl) (fun _ => ?_)
  refine up1 _ _ _ (fun _ => rfl) (fun _ => ?_)
  refine up1 _ _ _ (fun _ => rfl) (fun _ => ?_)
  refine up1 _ _ _ (fun _ => rfl) (fun _ => ?_)
  refine up1 _ _ _ (fun _ => funext fun k => if_neg (t := some [7, 3, k]) (Nat.not_lt_zero k)) (fun _ => ?_)
  refine up1 _ _ _ (fun _ => by funext k; rcases k with _ | _ | k <;> first | rfl | (simp [xFh, q1])) (fun _ => ?_)
  refine up1 _ _ _ (fun _ => by funext k; rcases k with _ | _ | _ | _ | _ | _ | k <;> first | rfl | (simp [xFh, qM, qK, qJ])) (fun _ => ?_)
  refine up1 _ _ _ (fun _ => rfl) (fun _ => ?_)
  refine up1 _ _ _ (fun _ => rfl) (fun _ => ?_)
  refine up1 _ _ _ (fun _ => rfl) (fun _ => ?_)
  refine up1 _ _ _ (fun _ => rfl) (fun _ => ?_)
  refine up1 _ _ _ (fun _ => by funext k; rcases k with _ | _ | _ | _ | _ | _ | k <;> first | rfl | (simp [xFh, qM, qK, qJ])) (fun _ => ?_)
  refine up1 _ _ _ (fun _ => funext fun k => if_neg (t := some [11, k, 0]) (Nat.not_lt_zero k)) (fun _ => ?_)
  refine up1 _ _ _ (fun _ => funext fun k => if_neg (t := some [5, k]) (Nat.not_lt_zero k)) (fun _ => ?_)
  refine up1 _ _ _ (fun _ => by funext k; rcases k with _ | _ | _ | _ | _ | _ | k <;> first | rfl | (simp [xFh, qM, qK, qJ])) (fun a0 => ?_)
  exact up1 _ _ _ (fun z => absurd z a0) (fun _ => rfl)
section XL
variable {p : Program} {l : Launch} {e : Env} {R : Room} {s : State} {m : MethodId} {args : Array Value} {below : List Frame} {meth : Method} {c : Code} {H : Heap} {locs : List Loc} {cells slots : Nat} {Q : State → Prop}
variable {ls : Array Slot} {g0 : xG} {a : List Nat → Nat} {h : xS} {I : xI} {n jn : Nat}
set_option maxHeartbeats 4000000 in
set_option maxRecDepth 100000 in
theorem t_start (hst : l.stackTraces = false) (hx : p.tables.exec = Jvm.exec) (hb : c.code = cL_law) (hml : c.maxLocals = 17) (hown : s.vm.findClass "CasebookStepsLaw" = some m.cls) (hE : ∀ a, xE (setG g0 a) s s.heap) (hR : 12 ≤ R.frames ∧ 300 ≤ R.locals) (hSl : gSl g0 < 2 ^ 31) (hf : 300 ≤ R.cells ∧ 5000 ≤ R.slots) (hA : ∀ q, s.heap.size ≤ q → gA g0 q) (hl : lv_has ls 17 [(0, .ref (gSb g0))]) (kk : ∀ (T : Nat) (a : List Nat → Nat) (I : xI) (n : Nat) (H : Heap) (locs : List Loc) (ls : Array Slot) (cells slots : Nat), T < 58 → cells ≤ 300 → slots ≤ 5000 → xR (setG g0 a) (xD h00) I (xFh h00) n H → LW h00 I 0 → va_S (gA g0) s.heap H locs → lv_has ls 17 [(3, .int (nI 0)), (2, .int (nI T)), (1, .ref (a [0])), (0, .ref (gSb g0))] → W p l e R s m args below meth c H locs cells slots Q (F0 m 21 ls [])) : W p l e R s m args below meth c s.heap [] 0 0 Q (F0 m 0 ls []) := by
  obtain ⟨N, hN⟩ : ∃ N, N = s.heap.size := ⟨_, rfl⟩
  have hE' := hE (aSt N)
  have hK := hE'.1
  have hts := hE'.ts args
  have hS : va_S (gA g0) s.heap s.heap [] := va_S.rf
  have hH : xR (setG g0 (aSt N)) (fun _ => False) (fun _ _ => 0) (xFh h00) N s.heap := ⟨hN.symm, fun _ h => h.elim, fun _ _ h => h.elim, fun _ h => h.elim, fun q h => hA q (by omega)⟩
  refine x_new (g := setG g0 (aSt N)) (own := "CasebookStepsLaw") (C := RX6) (T := TX6) (N := 6) (ci := 6) hx hb hts iu6 tyX6 tyX6_ok hown (hts _ tw21) (hts _ tw22) (hts _ tw1) hK hH hS [0] (fun z => z) rfl rfl (by decide) rfl (df6 _) (by omega) (by omega) dL_law_0 (fun H hH hS => ?_)
  refine lv_dup hx hb dL_law_3 rfl ?_
  refine x_I0 hx hb hml hown hE' hS hl.1 cyX6_init tw23 (c_X6_init l (setG g0 (aSt N)) _ _ _ (N + 1) (Or.inl rfl) upR_at upR_at (by simp) rfl (by simp) rfl (by simp) rfl (by simp) rfl (by simp) rfl (by simp) rfl (by simp) rfl (by simp) rfl (by simp) rfl (by simp) rfl (by simp) rfl (by simp) rfl (by simp) rfl (by simp) rfl (by simp) rfl) ⟨by omega, by omega⟩ ⟨by omega, by omega⟩ hH rfl rfl (Nat.le_of_ble_eq_true rfl) dL_law_4 (fun H locs hH hS => ?_)
  refine lv_astore_n (lv' := [(1, .ref N), (0, .ref (gSb g0))]) hx hb dL_law_7 rfl hl (by decide) rfl (fun ls hl => ?_)
  have hL : LW h00 (sI6 (upR (fun _ _ => 0) [0] (fun _ => 0))) 0 := by
    refine LW0 (fun id a2 a3 => ?_)
    funext q
    have up0 : ∀ (f : xI) (i : List Nat) (r : Nat → Int32), f id q = 0 → (id = i → r q = 0) → upR f i r id q = 0 := fun f i r h1 h2 => by
      rw [upR_ap]
      split
      · rename_i z; exact h2 z
      · exact h1
    repeat (refine up0 _ _ _ ?_ (fun z => by first | exact absurd z a2 | exact absurd z a3 | rfl))
    rfl
  have hH2 : xR (setG g0 (aSt N)) (xD h00) (sI6 (upR (fun _ _ => 0) [0] (fun _ => 0))) (xFh h00) (N + 16) H := hH.congr (g' := setG g0 (aSt N)) (fun i hi => sDz_all i hi) (fun _ _ => rfl) (fun i _ => sFz_all i)
  clear hH
  refine lv_aload_n hx hb dL_law_8 rfl (lv_at hl 1 rfl) ?_
  refine lv_iconst (v := 0) hx hb dL_law_9 (by decide) ?_
  refine x_S1 (own := "CasebookStepsLaw") (g := setG g0 (aSt N)) hx hb hml hown hE' hS hl.1 cyL_cell tw154 (c_cell l (setG g0 (aSt N)) (xD h00) _ (xFh h00) (N + 16) 0 (by omega) hSl) ⟨by omega, by omega⟩ ⟨by omega, by omega⟩ hH2 rfl rfl (Nat.le_of_ble_eq_true rfl) dL_law_10 (fun H locs hH hS => ?_)
  refine lv_bipush (v := 58) hx hb dL_law_13 (by decide) ?_
  refine x_S1 (own := "CasebookStepsLaw") (g := setG g0 (aSt N)) hx hb hml hown hE' hS hl.1 cyL_some tw157 (c_some l (setG g0 (aSt N)) (xD h00) _ (xFh h00) (N + 16) (cV (setG g0 (aSt N)) 0) 58 (by decide)) ⟨by omega, by omega⟩ ⟨by omega, by omega⟩ hH rfl rfl (Nat.le_of_ble_eq_true rfl) dL_law_15 (fun H locs hH hS => ?_)
  obtain ⟨T, hT1, hT2⟩ : ∃ q, q < 58 ∧ sM (cV (setG g0 (aSt N)) 0) 58 = nI q := sM_nI _ (m := 58) (by decide) (by decide)
  rw [hT2]
  refine lv_istore_n (lv' := [(2, .int (nI T)), (1, .ref N), (0, .ref (gSb g0))]) hx hb dL_law_18 rfl hl (by decide) rfl (fun ls hl => ?_)
  refine lv_iconst (v := 0) hx hb dL_law_19 (by decide) ?_
  refine lv_istore_n (lv' := [(3, .int 0), (2, .int (nI T)), (1, .ref N), (0, .ref (gSb g0))]) hx hb dL_law_20 rfl hl (by decide) rfl (fun ls hl => ?_)
  exact kk T (aSt N) _ _ H locs ls _ _ hT1 (by omega) (by omega) hH hL hS (lv_sub hl [0, 1, 2, 3] rfl)
end XL
