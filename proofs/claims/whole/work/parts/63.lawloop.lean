/-! THE LAW: the loop over the script -/
section XL
variable {p : Program} {l : Launch} {e : Env} {R : Room} {s : State} {m : MethodId} {args : Array Value} {below : List Frame} {meth : Method} {c : Code} {H : Heap} {locs : List Loc} {cells slots : Nat} {Q : State → Prop}
variable {ls : Array Slot} {g0 : xG} {a : List Nat → Nat} {h : xS} {I : xI} {n b i jn L : Nat} {xs : Nat → Int32}
theorem sub6 {L i : Nat} (hL : L ≤ 3072) (hi : i ≤ 4000) : (Int32.ofNat L - 6 < nI i) ↔ ¬ i + 6 ≤ L := by
  by_cases h : 6 ≤ L
  · have e : Int32.ofNat L - 6 = nI (L - 6) := by
      have e1 : Int32.ofNat L = nI (L - 6) + nI 6 := by rw [nI_add]; exact congrArg Int32.ofNat (by omega)
      rw [e1]
      exact Int32.add_sub_cancel _ _
    rw [e, nI_ltI (by omega) (by omega)]
    omega
  · have h0 : Int32.ofNat L - 6 < nI 0 := by
      rcases (show L = 0 ∨ L = 1 ∨ L = 2 ∨ L = 3 ∨ L = 4 ∨ L = 5 by omega) with r | r | r | r | r | r <;> subst r <;> decide
    refine ⟨fun _ => by omega, fun _ => ?_⟩
    by_cases z : i = 0
    · rw [z]; exact h0
    · exact Int32.lt_trans h0 ((nI_ltI (a := 0) (b := i) (by omega) (by omega)).mpr (by omega))
theorem and63 (x : Int32) : ∃ w : Nat, w < 64 ∧ x &&& 63 = nI w := by
  refine ⟨(x &&& 63).toBitVec.toNat, ?_, ?_⟩
  · have e : (x &&& 63).toBitVec = x.toBitVec &&& 63#32 := rfl
    rw [e, BitVec.toNat_and]
    exact Nat.lt_of_le_of_lt Nat.and_le_right (by decide)
  · have h : BitVec.ofNat 32 (x &&& 63).toBitVec.toNat = (x &&& 63).toBitVec := by simp
    exact (congrArg Int32.ofBitVec h).symm.trans rfl
set_option maxHeartbeats 4000000 in
theorem t_case (hst : l.stackTraces = false) (hx : p.tables.exec = Jvm.exec) (hb : c.code = cL_law) (hml : c.maxLocals = 8) (hown : s.vm.findClass "CasebookStepsLaw" = some m.cls) (hE : ∀ a, xE (setG g0 a) s s.heap) (hLs : xLs s) (hR : 61 ≤ R.frames ∧ 5000 ≤ R.locals) (hf : cells + 6 ≤ R.cells ∧ slots + 47 ≤ R.slots) (hX : va_X b L xs s s.heap) (hbl : b < s.heap.size) (hbA : ¬ gA g0 b) (hL3 : L ≤ 3072) (hS : va_S (gA g0) s.heap H locs) (hH : xR (setG g0 a) (xD h) I (xFh h) n H) (hl : lv_has ls 8 (lwB b a i)) (hL : LW h I jn) (hj : jn < 512) (hi : i + 6 ≤ L) {w : Nat} (hw : w < 64) (kk : ∀ (a' : List Nat → Nat) (h' : xS) (J : xI) (n' jn' : Nat) (H : Heap) (locs : List Loc) (ls : Array Slot) (mc ms : Nat), (∀ id, xD h id → a' id = a id) → mc ≤ 6 → ms ≤ 47 → jn' ≤ jn + 1 → LW h' J jn' → xR (setG g0 a') (xD h') J (xFh h') n' H → va_S (gA g0) s.heap H locs → lv_has ls 8 (lwB b a' i) → W p l e R s m args below meth c H locs (cells + mc) (slots + ms) Q (F0 m 2595 ls [])) : W p l e R s m args below meth c H locs cells slots Q (F0 m 45 ls [.int (nI w)]) := by
  by_cases h35 : 35 ≤ w
  · refine lv_tableOut (tgt := 2595) hx hb dL_law_45 (Or.inr ?_) (by decide) ?_
    · rw [nI_toInt (by omega)]; omega
    · exact kk a h I n jn H locs ls 0 0 (fun _ _ => rfl) (by omega) (by omega) (by omega) hL hH hS hl
  · rcases (show w = 0 ∨ w = 1 ∨ w = 2 ∨ w = 3 ∨ w = 4 ∨ w = 5 ∨ w = 6 ∨ w = 7 ∨ w = 8 ∨ w = 9 ∨ w = 10 ∨ w = 11 ∨ w = 12 ∨ w = 13 ∨ w = 14 ∨ w = 15 ∨ w = 16 ∨ w = 17 ∨ w = 18 ∨ w = 19 ∨ w = 20 ∨ w = 21 ∨ w = 22 ∨ w = 23 ∨ w = 24 ∨ w = 25 ∨ w = 26 ∨ w = 27 ∨ w = 28 ∨ w = 29 ∨ w = 30 ∨ w = 31 ∨ w = 32 ∨ w = 33 ∨ w = 34 by omega) with r | r | r | r | r | r | r | r | r | r | r | r | r | r | r | r | r | r | r | r | r | r | r | r | r | r | r | r | r | r | r | r | r | r | r
    · subst r; exact lv_tableIn (tgt := 200) hx hb dL_law_45 (by decide) (by decide) rfl (by decide) (k_addPlan hst hx hb hml hown hE hLs hR hf hX hbl hbA hL3 hi hS hH hl hL hj kk)
    · subst r; exact lv_tableIn (tgt := 244) hx hb dL_law_45 (by decide) (by decide) rfl (by decide) (k_addStep hst hx hb hml hown hE hLs hR hf hX hbl hbA hL3 hi hS hH hl hL hj kk)
    · subst r; exact lv_tableIn (tgt := 326) hx hb dL_law_45 (by decide) (by decide) rfl (by decide) (k_addEntry hst hx hb hml hown hE hLs hR hf hX hbl hbA hL3 hi hS hH hl hL hj kk)
    · subst r; exact lv_tableIn (tgt := 432) hx hb dL_law_45 (by decide) (by decide) rfl (by decide) (k_addExit hst hx hb hml hown hE hLs hR hf hX hbl hbA hL3 hi hS hH hl hL hj kk)
    · subst r; exact lv_tableIn (tgt := 538) hx hb dL_law_45 (by decide) (by decide) rfl (by decide) (k_setRequired hst hx hb hml hown hE hLs hR hf hX hbl hbA hL3 hi hS hH hl hL hj kk)
    · subst r; exact lv_tableIn (tgt := 641) hx hb dL_law_45 (by decide) (by decide) rfl (by decide) (k_setLimit hst hx hb hml hown hE hLs hR hf hX hbl hbA hL3 hi hS hH hl hL hj kk)
    · subst r; exact lv_tableIn (tgt := 721) hx hb dL_law_45 (by decide) (by decide) rfl (by decide) (k_setAgain hst hx hb hml hown hE hLs hR hf hX hbl hbA hL3 hi hS hH hl hL hj kk)
    · subst r; exact lv_tableIn (tgt := 824) hx hb dL_law_45 (by decide) (by decide) rfl (by decide) (k_steps hst hx hb hml hown hE hLs hR hf hX hbl hbA hL3 hi hS hH hl hL hj kk)
    · subst r; exact lv_tableIn (tgt := 880) hx hb dL_law_45 (by decide) (by decide) rfl (by decide) (k_isUsed hst hx hb hml hown hE hLs hR hf hX hbl hbA hL3 hi hS hH hl hL hj kk)
    · subst r; exact lv_tableIn (tgt := 943) hx hb dL_law_45 (by decide) (by decide) rfl (by decide) (k_begin hst hx hb hml hown hE hLs hR hf hX hbl hbA hL3 hi hS hH hl hL hj kk)
    · subst r; exact lv_tableIn (tgt := 999) hx hb dL_law_45 (by decide) (by decide) rfl (by decide) (k_set hst hx hb hml hown hE hLs hR hf hX hbl hbA hL3 hi hS hH hl hL hj kk)
    · subst r; exact lv_tableIn (tgt := 1079) hx hb dL_law_45 (by decide) (by decide) rfl (by decide) (k_event hst hx hb hml hown hE hLs hR hf hX hbl hbA hL3 hi hS hH hl hL hj kk)
    · subst r; exact lv_tableIn (tgt := 1147) hx hb dL_law_45 (by decide) (by decide) rfl (by decide) (k_complete hst hx hb hml hown hE hLs hR hf hX hbl hbA hL3 hi hS hH hl hL hj kk)
    · subst r; exact lv_tableIn (tgt := 1215) hx hb dL_law_45 (by decide) (by decide) rfl (by decide) (k_setWaiting hst hx hb hml hown hE hLs hR hf hX hbl hbA hL3 hi hS hH hl hL hj kk)
    · subst r; exact lv_tableIn (tgt := 1306) hx hb dL_law_45 (by decide) (by decide) rfl (by decide) (k_move hst hx hb hml hown hE hLs hR hf hX hbl hbA hL3 hi hS hH hl hL hj kk)
    · subst r; exact lv_tableIn (tgt := 1374) hx hb dL_law_45 (by decide) (by decide) rfl (by decide) (k_pass hst hx hb hml hown hE hLs hR hf hX hbl hbA hL3 hi hS hH hl hL hj kk)
    · subst r; exact lv_tableIn (tgt := 1430) hx hb dL_law_45 (by decide) (by decide) rfl (by decide) (k_state hst hx hb hml hown hE hLs hR hf hX hbl hbA hL3 hi hS hH hl hL hj kk)
    · subst r; exact lv_tableIn (tgt := 1498) hx hb dL_law_45 (by decide) (by decide) rfl (by decide) (k_stateByReplay hst hx hb hml hown hE hLs hR hf hX hbl hbA hL3 hi hS hH hl hL hj kk)
    · subst r; exact lv_tableIn (tgt := 1566) hx hb dL_law_45 (by decide) (by decide) rfl (by decide) (k_clock hst hx hb hml hown hE hLs hR hf hX hbl hbA hL3 hi hS hH hl hL hj kk)
    · subst r; exact lv_tableIn (tgt := 1634) hx hb dL_law_45 (by decide) (by decide) rfl (by decide) (k_clockByReplay hst hx hb hml hown hE hLs hR hf hX hbl hbA hL3 hi hS hH hl hL hj kk)
    · subst r; exact lv_tableIn (tgt := 1702) hx hb dL_law_45 (by decide) (by decide) rfl (by decide) (k_count hst hx hb hml hown hE hLs hR hf hX hbl hbA hL3 hi hS hH hl hL hj kk)
    · subst r; exact lv_tableIn (tgt := 1770) hx hb dL_law_45 (by decide) (by decide) rfl (by decide) (k_isLate hst hx hb hml hown hE hLs hR hf hX hbl hbA hL3 hi hS hH hl hL hj kk)
    · subst r; exact lv_tableIn (tgt := 1845) hx hb dL_law_45 (by decide) (by decide) rfl (by decide) (k_daysLeft hst hx hb hml hown hE hLs hR hf hX hbl hbA hL3 hi hS hH hl hL hj kk)
    · subst r; exact lv_tableIn (tgt := 1901) hx hb dL_law_45 (by decide) (by decide) rfl (by decide) (k_holds hst hx hb hml hown hE hLs hR hf hX hbl hbA hL3 hi hS hH hl hL hj kk)
    · subst r; exact lv_tableIn (tgt := 2016) hx hb dL_law_45 (by decide) (by decide) rfl (by decide) (k_active hst hx hb hml hown hE hLs hR hf hX hbl hbA hL3 hi hS hH hl hL hj kk)
    · subst r; exact lv_tableIn (tgt := 2072) hx hb dL_law_45 (by decide) (by decide) rfl (by decide) (k_isOver hst hx hb hml hown hE hLs hR hf hX hbl hbA hL3 hi hS hH hl hL hj kk)
    · subst r; exact lv_tableIn (tgt := 2135) hx hb dL_law_45 (by decide) (by decide) rfl (by decide) (k_rounds hst hx hb hml hown hE hLs hR hf hX hbl hbA hL3 hi hS hH hl hL hj kk)
    · subst r; exact lv_tableIn (tgt := 2191) hx hb dL_law_45 (by decide) (by decide) rfl (by decide) (k_datum hst hx hb hml hown hE hLs hR hf hX hbl hbA hL3 hi hS hH hl hL hj kk)
    · subst r; exact lv_tableIn (tgt := 2259) hx hb dL_law_45 (by decide) (by decide) rfl (by decide) (k_days hst hx hb hml hown hE hLs hR hf hX hbl hbA hL3 hi hS hH hl hL hj kk)
    · subst r; exact lv_tableIn (tgt := 2315) hx hb dL_law_45 (by decide) (by decide) rfl (by decide) (k_planOf hst hx hb hml hown hE hLs hR hf hX hbl hbA hL3 hi hS hH hl hL hj kk)
    · subst r; exact lv_tableIn (tgt := 2371) hx hb dL_law_45 (by decide) (by decide) rfl (by decide) (k_isWaiting hst hx hb hml hown hE hLs hR hf hX hbl hbA hL3 hi hS hH hl hL hj kk)
    · subst r; exact lv_tableIn (tgt := 2434) hx hb dL_law_45 (by decide) (by decide) rfl (by decide) (k_happened hst hx hb hml hown hE hLs hR hf hX hbl hbA hL3 hi hS hH hl hL hj kk)
    · subst r; exact lv_tableIn (tgt := 2490) hx hb dL_law_45 (by decide) (by decide) rfl (by decide) (k_cases hst hx hb hml hown hE hLs hR hf hX hbl hbA hL3 hi hS hH hl hL hj kk)
    · subst r; exact lv_tableIn (tgt := 2503) hx hb dL_law_45 (by decide) (by decide) rfl (by decide) (k_daysWorked hst hx hb hml hown hE hLs hR hf hX hbl hbA hL3 hi hS hH hl hL hj kk)
    · subst r; exact lv_tableIn (tgt := 2517) hx hb dL_law_45 (by decide) (by decide) rfl (by decide) (k_doneShare hst hx hb hml hown hE hLs hR hf hX hbl hbA hL3 hi hS hH hl hL hj kk)
/-- from the head of the loop to its end -/
theorem t_loop (hst : l.stackTraces = false) (hx : p.tables.exec = Jvm.exec) (hb : c.code = cL_law) (hml : c.maxLocals = 8) (hown : s.vm.findClass "CasebookStepsLaw" = some m.cls) (hE : ∀ a, xE (setG g0 a) s s.heap) (hLs : xLs s) (hR : 61 ≤ R.frames ∧ 5000 ≤ R.locals) (hX : va_X b L xs s s.heap) (hbl : b < s.heap.size) (hbA : ¬ gA g0 b) (hL3 : L ≤ 3072) (c0 s0 : Nat) (hRc : c0 + 3072 ≤ R.cells ∧ s0 + 24064 ≤ R.slots)
    (fin : ∀ (H : Heap) (locs : List Loc) (ls : Array Slot) (cells slots : Nat), cells ≤ c0 + 3072 → slots ≤ s0 + 24064 → va_S (gA g0) s.heap H locs → W p l e R s m args below meth c H locs cells slots Q (F0 m 2601 ls [])) :
    ∀ (f t : Nat) (a : List Nat → Nat) (h : xS) (I : xI) (n jn : Nat) (H : Heap) (locs : List Loc) (ls : Array Slot) (cells slots : Nat), 512 - t < f → t ≤ 512 → cells ≤ c0 + 6 * t → slots ≤ s0 + 47 * t → jn ≤ t → LW h I jn → xR (setG g0 a) (xD h) I (xFh h) n H → va_S (gA g0) s.heap H locs → lv_has ls 8 (lwB b a (6 * t)) → W p l e R s m args below meth c H locs cells slots Q (F0 m 28 ls []) := by
  intro f
  induction f with
  | zero => intro t a h I n jn H locs ls cells slots hf; omega
  | succ f ih =>
    intro t a h I n jn H locs ls cells slots hft ht hc hs hj hL hH hS hl
    refine lv_iload hx hb dL_law_28 (lv_at hl 5 rfl) ?_
    refine lv_aload_n hx hb dL_law_30 rfl (lv_at hl 0 rfl) ?_
    refine va_slen hx hb hX hbl hbA hS dL_law_31 ?_
    refine lv_bipush (v := 6) hx hb dL_law_32 (by decide) ?_
    refine lv_isub hx hb dL_law_34 ?_
    refine lv_icmp_gt (tgt := 2601) hx hb dL_law_35 (by decide) (fun _ => fin H locs ls cells slots (by omega) (by omega) hS) (fun q => ?_)
    have hi : 6 * t + 6 ≤ L := Decidable.of_not_not (fun z => q ((sub6 hL3 (by omega)).mpr z))
    refine lv_aload_n hx hb dL_law_38 rfl (lv_at hl 0 rfl) ?_
    refine lv_iload hx hb dL_law_39 (lv_at hl 5 rfl) ?_
    obtain ⟨q1, q2⟩ := x_in (i := nI (6 * t)) (j := 6 * t) (L := L) rfl (by omega) (by omega)
    refine va_sld hx hb hX hbl hbA hS q1 dL_law_41 ?_
    refine lv_bipush (v := 63) hx hb dL_law_42 (by decide) ?_
    refine lv_iand hx hb dL_law_44 ?_
    obtain ⟨w, hw, ew⟩ := and63 (xs (nI (6 * t)).toNatClampNeg)
    rw [ew]
    refine t_case hst hx hb hml hown hE hLs hR ⟨by omega, by omega⟩ hX hbl hbA hL3 hS hH hl hL (by omega) hi hw (fun a' h' J n' jn' H locs ls mc ms ha hmc hms hjn hL hH hS hl => ?_)
    refine lv_iinc (k := 5) (v := nI (6 * (t + 1))) (lv' := [(5, .int (nI (6 * (t + 1)))), (0, .ref b), (1, .ref (a' [0])), (2, .ref (a' [20])), (3, .ref (a' [30])), (4, .ref (a' [31]))]) hx hb dL_law_2595 hl rfl ((nI_add (6 * t) 6).trans (congrArg nI (by omega))) (by decide) rfl (fun ls hl => ?_)
    refine lv_goto (tgt := 28) hx hb dL_law_2598 (by decide) ?_
    exact ih (t + 1) a' h' J n' jn' H locs ls _ _ (by omega) (by omega) (by omega) (by omega) (by omega) hL hH hS (lv_sub hl [1, 2, 3, 4, 5, 0] rfl)
end XL
