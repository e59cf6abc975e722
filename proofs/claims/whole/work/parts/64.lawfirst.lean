/-! THE LAW: how it begins -/
abbrev h00 : xS := (0, 0, fun _ => 0, fun _ _ _ => 0, fun _ => 3)
theorem LW0 {I : xI} (h20 : I [20] = fun q => if q = 21 then -1 else 0) (z : ∀ id, id ≠ [20] → id ≠ [11, 4, 0] → id ≠ [5, 3] → I id = fun _ => 0) : LW h00 I 0 := by
  have no : ∀ {k : Nat} {P : Prop}, k < 0 → P := fun hk => absurd hk (Nat.not_lt_zero _)
  refine ⟨⟨⟨⟨Nat.zero_le _, ?_, fun p hp => no hp⟩, ?_, fun p hp => no hp, fun p _ _ => ⟨?_, ?_, fun j w _ _ => ?_⟩⟩, ⟨⟨Nat.zero_le _, ?_, fun c hc => no hc⟩, ?_, ?_, fun c hc => no hc, fun c _ _ => ⟨?_, ?_, ?_, ?_, ?_, ?_, ?_, ?_⟩⟩, fun c hc => no hc, ⟨?_, ⟨fun r hr => no hr, fun r hr => no hr, fun r hr => no hr⟩, fun c hc => no hc⟩, fun k => ?_⟩, Or.inr rfl⟩
  · rw [z [0] (by simp) (by simp) (by simp)]; rfl
  · rw [h20]; rfl
  · rw [z [24, 8] (by simp) (by simp) (by simp)]
  · rw [z [24, 9] (by simp) (by simp) (by simp)]
  · rw [z [23, 7, p, j] (by simp) (by simp) (by simp)]
  · rw [z [0] (by simp) (by simp) (by simp)]; rfl
  · rw [h20]; rfl
  · rw [h20]; rfl
  · rw [z [22, 12, c] (by simp) (by simp) (by simp)]; rfl
  · rw [z [22, 14, c] (by simp) (by simp) (by simp)]; rfl
  · rw [z [22, 15, c] (by simp) (by simp) (by simp)]; rfl
  · rw [z [22, 16, c] (by simp) (by simp) (by simp)]; rfl
  · rw [z [24, 17] (by simp) (by simp) (by simp)]
  · rw [z [24, 13] (by simp) (by simp) (by simp)]
  · rw [z [24, 18] (by simp) (by simp) (by simp)]
  · rw [z [24, 19] (by simp) (by simp) (by simp)]
  · rw [z [3] (by simp) (by simp) (by simp)]; rfl
  · show narrow .char (.int (I [11, 4, 2] k)) = .int (I [11, 4, 2] k)
    rw [z [11, 4, 2] (by simp) (by simp) (by simp)]; rfl
section XL
variable {p : Program} {l : Launch} {e : Env} {R : Room} {s : State} {m : MethodId} {args : Array Value} {below : List Frame} {meth : Method} {c : Code} {H : Heap} {locs : List Loc} {cells slots : Nat} {Q : State → Prop}
variable {cc : ByteArray} {pc : Nat} {ls : Array Slot} {rest : List Value} {H0 : Heap}
variable {g : xG} {dm : List Nat → Prop} {I : xI} {F : xF} {n : Nat}
/-- new long[], double[] -/
theorem x_newaW (hx : p.tables.exec = Jvm.exec) (hb : c.code = cc) {atype : ArrayType} (harr : (Cond.arrayClass (newarray.typeOf atype)).before args s = true) (t : Nat) (ht : t = 12 ∨ t = 13) (hty : newarray.typeOf atype = xty t) (hK : va_K (gD g) vwCl (xT g) s) (hH : xR g dm I F n H) (hS : va_S (gA g) H0 H locs) (id : List Nat) (hid : ¬ dm id) (had : ga g id = n) {L : Nat} (hk : xk id = (10 + t, L))
    {x : Int32} (hx0 : x = nI L) (hL : L ≤ 512) (hcells : cells + 1 ≤ R.cells) (hslots : slots + L ≤ R.slots) (hdg : decode cc pc = .ok (.newarray atype, 2))
    (kk : ∀ (H1 : Heap), xR g (fun i => i = id ∨ dm i) (upR I id (fun _ => 0)) (upR F id (fun _ => none)) (n + 1) H1 → va_S (gA g) H0 H1 locs →
      W p l e R s m args below meth c H1 locs (cells + 1) (slots + L) Q (F0 m (pc + 2) ls (.ref (ga g id) :: rest))) : W p l e R s m args below meth c H locs cells slots Q (F0 m pc ls (.int x :: rest)) := by
  have hn : H.size = n := hH.1
  subst hx0
  have hcb : componentBytes (newarray.typeOf atype) ≤ 8 := by cases atype <;> decide
  refine va_newaK hx hb harr rfl hdg rfl (nI_pos (by omega)) (nI_clamp (by omega)) (by have := Nat.mul_le_mul hL hcb; omega) hcells hslots rfl fun H1 cA e1 z1 o1 hAr hNm => ?_
  have hcA : cA = gT g t := by
    have h := (hK.2 t _ (xT_at g (by omega))).2
    rw [hty] at hNm
    rcases ht with e | e <;> subst e <;> exact Option.some.inj (hNm.symm.trans h)
  rw [hn, ← had]
  refine kk H1 (hH.push hid had z1 o1 (fun i hi => upR_id hi) (fun i hi => upR_id hi) ((xat_arr hk).mpr ?_)) (x_Spush hS z1 o1)
  rw [upR_at, upR_at, had, ← hn, e1, hcA]
  congr 2
  funext j
  rw [hty]
  rcases ht with e | e <;> subst e
  · rfl
  · exact congrArg Value.double (show (0 : UInt64) = FP.f2d (0 : Int32).toUInt32 by decide +kernel)
end XL
