/-! THE LAW: its own int rows, its calls -/
def hOw (h : xS) (k : Nat) : xS := (sNp h, sNc h, sSz h, sCn h, sPl h, k)
theorem LW.ow {h : xS} {I : xI} {jn : Nat} (hL : LW h I jn) (k : Nat) : LW (hOw h k) I jn := ⟨hL.1.hp4 rfl rfl rfl rfl (fun _ _ => rfl), hL.2⟩
theorem LW.up {h : xS} {I I' : xI} {jn : Nat} (hL : LW h I jn) (e : ∀ id, id ≠ [40] → id ≠ [41] → I' id = I id) : LW h I' jn := by
  refine ⟨hL.1.same (fun id hi => e id (by rintro rfl; cases hi) (by rintro rfl; cases hi)) ?_, hL.2⟩
  have : gX I' 4 = gX I 4 := funext fun f => e _ (by simp) (by simp)
  rw [this]; exact hL.1.2.2.2.2
theorem xD_ow {h : xS} {k : Nat} {i : List Nat} (hi : xD (hOw h k) i) (h40 : i ≠ [40]) (h41 : i ≠ [41]) : xD h i := by
  unfold xD at hi ⊢
  split at hi <;> first | exact hi | exact absurd rfl h40 | exact absurd rfl h41
theorem xD_wo {h : xS} {k : Nat} {i : List Nat} (hi : xD h i) (h40 : i ≠ [40]) (h41 : i ≠ [41]) : xD (hOw h k) i := by
  unfold xD at hi ⊢
  split at hi <;> first | exact hi | exact absurd rfl h40 | exact absurd rfl h41
theorem xF_ow (h : xS) (k : Nat) : xFh (hOw h k) = xFh h := rfl
theorem own1 {g : xG} {h : xS} {I : xI} {n : Nat} {H : Heap} (hH : xR g (fun i => i = [40] ∨ xD h i) I (upR (xFh h) [40] (fun _ => none)) n H) : xR g (xD (hOw h 1)) I (xFh (hOw h 1)) n H := by
  refine hH.congr (g' := g) (fun i hi => ?_) (fun _ _ => rfl) (fun i hi => ?_)
  · by_cases e : i = [40]
    · exact Or.inl e
    · refine Or.inr (xD_ow hi e ?_)
      rintro rfl
      exact absurd hi (show ¬ 2 ≤ 1 by omega)
  · rw [xF_ow]
    by_cases e : i = [40]
    · subst e; rw [upR_at]; rfl
    · rw [upR_id e]
theorem own2 {g : xG} {h : xS} {I : xI} {n : Nat} {H : Heap} (hH : xR g (fun i => i = [41] ∨ i = [40] ∨ xD h i) I (upR (upR (xFh h) [40] (fun _ => none)) [41] (fun _ => none)) n H) : xR g (xD (hOw h 2)) I (xFh (hOw h 2)) n H := by
  refine hH.congr (g' := g) (fun i hi => ?_) (fun _ _ => rfl) (fun i hi => ?_)
  · by_cases e1 : i = [41]
    · exact Or.inl e1
    · by_cases e : i = [40]
      · exact Or.inr (Or.inl e)
      · exact Or.inr (Or.inr (xD_ow hi e e1))
  · rw [xF_ow]
    by_cases e1 : i = [41]
    · subst e1; rw [upR_at]; rfl
    · rw [upR_id e1]
      by_cases e : i = [40]
      · subst e; rw [upR_at]; rfl
      · rw [upR_id e]
/-- the law's own rows are let go -/
theorem xG_.drop {g : xG} {h h1 : xS} {I I1 : xI} {n : Nat} {H : Heap} (hG : xG_ g (xD h1) I1 (xFh h1) n H) (k : Nat) (e : h1 = hOw h k) (h0 : sOw h = 0) (eI : ∀ id, id ≠ [40] → id ≠ [41] → I1 id = I id) : xG_ g (xD h) I (xFh h) 0 H := by
  subst e
  obtain ⟨n1, -, hH⟩ := hG
  have no : ∀ i, xD h i → i ≠ [40] ∧ i ≠ [41] := fun i hi => ⟨by rintro rfl; exact absurd (show 1 ≤ sOw h from hi) (by omega), by rintro rfl; exact absurd (show 2 ≤ sOw h from hi) (by omega)⟩
  exact ⟨n1, Nat.zero_le _, hH.congr (g' := g) (fun i hi => xD_wo hi (no i hi).1 (no i hi).2) (fun i hi => (eI i (no i hi).1 (no i hi).2).symm) (fun _ _ => rfl)⟩
section XL
variable {p : Program} {l : Launch} {e : Env} {R : Room} {s : State} {m : MethodId} {args : Array Value} {below : List Frame} {meth : Method} {c : Code} {H : Heap} {locs : List Loc} {cells slots : Nat} {Q : State → Prop}
variable {cc : ByteArray} {pc : Nat} {ls : Array Slot} {rest st0 : List Value} {g0 : xG} {a : List Nat → Nat} {h : xS} {I : xI} {n jn : Nat}
/-- Math.max(1, q) -/
theorem t_max (hx : p.tables.exec = Jvm.exec) (hb : c.code = cc) (hml : c.maxLocals = 17) (hsize : ls.size = 17) (hown : s.vm.findClass "CasebookStepsLaw" = some m.cls) (hts : ∀ w ∈ gl, w.before args s = true) (hR : 12 ≤ R.frames ∧ 300 ≤ R.locals) (hf : cells ≤ R.cells ∧ slots ≤ R.slots) {q : Nat} (hq : q < 2 ^ 31) (hW : (rest.map fun v => v.category).sum ≤ 8) (hdg : decode cc pc = .ok (.invokestatic 178, 3))
    (kk : W p l e R s m args below meth c H locs cells slots Q (F0 m (pc + 3) ls (.int (nI (max 1 q)) :: rest))) : W p l e R s m args below meth c H locs cells slots Q (F0 m pc ls (.int (nI q) :: .int 1 :: rest)) := by
  refine va_mmax (own := "CasebookStepsLaw") hx hb (hml.trans hsize.symm) hown (hts _ tw795) (hts _ tw796) (hts _ tw9) (hts _ tw797) (by omega) (by omega) hf.1 hf.2 hdg ?_
  have e : (if (1 : Int32) < nI q then nI q else 1) = nI (max 1 q) := by
    by_cases z : 1 < q
    · have z1 : (1 : Int32) < nI q := (nI_ltI (a := 1) (b := q) (by omega) hq).mpr z
      rw [if_pos z1, show max 1 q = q by omega]
    · have z1 : ¬ (1 : Int32) < nI q := fun y => z ((nI_ltI (a := 1) (b := q) (by omega) hq).mp y)
      rw [if_neg z1, show max 1 q = 1 by omega]; rfl
  rw [e]; exact kk
/-- a call that changes things: refused, or answered -/
theorem t_op {Rr : Int32 → xS → xI → Prop} {yL : MethodName} {cL : ByteArray} {mL ix nL P : Nat} {hh : List (Nat × Nat × Nat × Nat)} {av : List Value} (hx : p.tables.exec = Jvm.exec) (hb : c.code = cc) (hml : c.maxLocals = 17) (hown : s.vm.findClass "CasebookStepsLaw" = some m.cls) (hE : ∀ a, xE (setG g0 a) s s.heap) (hS : va_S (gA g0) s.heap H locs) (hsize : ls.size = 17) (hO : lO l g0 a h I n jn yL cL mL hh av Rr) (cy : xCalW yL cL mL (some .int) hh nL) (lk : Cond.methodLink "CasebookStepsLaw" ix yL ∈ gl) (hn : av.length + 1 = nL) (hmL : mL ≤ 9) (hR : 12 ≤ R.frames ∧ 300 ≤ R.locals) (hf : cells + 6 ≤ R.cells ∧ slots + 47 ≤ R.slots)
    (hH : xR (setG g0 a) (xD h) I (xFh h) n H) (hst2 : st0 = (Value.ref (a [0]) :: av).reverse) (dP : decode cc P = .ok (.invokestatic ix, 3))
    (kr : ∀ (v : Int32) (H : Heap) (locs : List Loc), v < -1000 → xG_ (setG g0 a) (xD h) I (xFh h) n H → va_S (gA g0) s.heap H locs → W p l e R s m args below meth c H locs (cells + 1) (slots + 6) Q (F0 m (P + 3) ls [.int v]))
    (ka : ∀ (a' : List Nat → Nat) (h1 : xS) (J : xI) (n1 jn' : Nat) (v : Int32) (H : Heap) (locs : List Loc) (mc ms : Nat), (∀ id, xD h id → a' id = a id) → mc ≤ 6 → ms ≤ 47 → jn' ≤ jn + 1 → -1000 < v → LW h1 J jn' → sOw h1 = sOw h → Rr v h1 J → xR (setG g0 a') (xD h1) J (xFh h1) n1 H → va_S (gA g0) s.heap H locs → W p l e R s m args below meth c H locs (cells + mc) (slots + ms) Q (F0 m (P + 3) ls [.int v])) : W p l e R s m args below meth c H locs cells slots Q (F0 m P ls st0) := by
  subst hst2
  rcases hO with ⟨k, fr, lo, hk, hbd, hw⟩ | ⟨a', h1, Iz, J, n1, jn', v, fr, lo, mc, ms, ha, hbd, hv, hsub, hw, hL', ho, hRr⟩
  · exact x_SW (own := "CasebookStepsLaw") (rest := []) hx hb hml hown (hE a) hS hsize cy lk hw ⟨by omega, by omega⟩ ⟨by omega, by omega⟩ hH (by simp; omega) (by simp) (Nat.zero_le _) dP (fun H1 locs1 hQ hS1 => kr k H1 locs1 hk hQ hS1)
  · have e0 : a [0] = a' [0] := (ha [0] trivial).symm
    rw [e0]
    exact x_SW (own := "CasebookStepsLaw") (rest := []) hx hb hml hown (hE a') hS hsize cy lk hw ⟨by omega, by omega⟩ ⟨by omega, by omega⟩ (hsub H hH) (by simp; omega) (by simp) (Nat.zero_le _) dP (fun H1 locs1 hQ hS1 => ka a' h1 J n1 jn' v H1 locs1 mc ms ha hbd.2.2.1 hbd.2.2.2.1 hbd.2.2.2.2 hv hL' ho hRr hQ hS1)
end XL
theorem ch2_ok {j : Nat} (hj : j < 5) : narrow .char (.int (st2.getD j 0)) = .int (st2.getD j 0) ∧ fits .char (.int (st2.getD j 0)) = true := by
  rcases (show j = 0 ∨ j = 1 ∨ j = 2 ∨ j = 3 ∨ j = 4 by omega) with rfl | rfl | rfl | rfl | rfl <;> exact ⟨rfl, rfl⟩
