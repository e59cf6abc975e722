/-! THE LAW: from its entry to its end -/
set_option maxHeartbeats 4000000 in
set_option maxRecDepth 100000 in
theorem whole_start {p : Program} {e : Env} {s : State} {m : MethodId} {below : List Frame} {meth : Method} {c : Code} (l : Launch) (hflags : l.flags = flags0) {b L : Nat} {xs : Nat → Int32} (hL : L ≤ 3072) (C0 : lw_At p s m meth c b L xs) : W p l e room_1 s m #[Value.ref b] below meth c s.heap [] 0 0 (lw_Z below #[Value.ref b] s) (entryFrame m ([Value.ref b] : List Value).toArray 8) := by
  obtain ⟨hx, hb, hr, hml, hown, hts, hX, hbl, hlocks, hgv⟩ := C0
  have hst : l.stackTraces = false := by
    unfold Launch.stackTraces
    rw [hflags]
    decide +kernel
  have hd0 := Drawn.sameBut.refl s.drawn lw_cs
  obtain ⟨D, T, hE, hLs, hCs⟩ := n1_env hts hgv
  obtain ⟨g0, hg0⟩ : ∃ g0 : xG, g0 = (D, T, (fun q => s.heap.size ≤ q), fun _ => 0) := ⟨_, rfl⟩
  have hE' : ∀ a, xE (setG g0 a) s s.heap := fun a => by rw [hg0]; exact hE a
  have hCs' : ∀ a, xCs (setG g0 a) s := fun a => by rw [hg0]; exact hCs a
  have hA : ∀ q, s.heap.size ≤ q → gA g0 q := fun q h => by rw [hg0]; exact h
  have hbA : ¬ gA g0 b := fun h => by rw [hg0] at h; exact absurd hbl (Nat.not_lt.mpr h)
  have hfr : ∀ (H : Heap) (locs : List Loc), va_S (gA g0) s.heap H locs → ∀ q ∈ locs, s.heap.size ≤ q.base := fun H locs hS q hq => by
    have h := hS.2.2 q hq
    rw [hg0] at h
    exact h
  have r1 : 2048 ≤ room_1.frames := Nat.le_refl _
  have r2 : 84000 ≤ room_1.locals := Nat.le_refl _
  have r3 : 614756 ≤ room_1.cells := Nat.le_refl _
  have r4 : 7251835 ≤ room_1.slots := Nat.le_refl _
  have hl := lv_entry ([.ref b]) (n := 8) (Nat.le_of_ble_eq_true rfl)
  rw [lg_entry_eq]
  generalize (lg_sl ([.ref b]) ++ List.replicate (8 - (lg_sl ([.ref b])).length) Slot.unset).toArray = ls at hl ⊢
  have hl : lv_has ls 8 [(0, .ref b)] := hl
  refine t_start (g0 := g0) hx hb hml hown hE' hCs' ⟨by omega, by omega⟩ ⟨by omega, by omega⟩ hA hl (fun a I n H locs ls cells slots hc hs hH hW hS hl => ?_)
  refine t_loop hst hx hb hml hown hE' hLs ⟨by omega, by omega⟩ hX hbl hbA hL 500 5000 ⟨by omega, by omega⟩ (fun H locs ls cells slots hc hs hS => ?_) 600 0 a h00 I n 0 H locs ls cells slots (by omega) (by omega) (by omega) (by omega) (by omega) hW hH hS hl
  refine lv_iconst (v := 1) hx hb dL_law_2601 (by decide) ?_
  refine va_forget (hfr H locs hS) ?_
  refine W.widen (k := 614756) (n := 7251835) (by omega) (by omega) ?_
  exact W.base (lw_ret hd0 hx hb hr hlocks dL_law_2602)
