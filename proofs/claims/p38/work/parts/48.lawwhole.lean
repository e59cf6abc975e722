/-! THE LAW: from its entry to its end -/
set_option maxHeartbeats 4000000 in
set_option maxRecDepth 100000 in
theorem whole_start {p : Program} {e : Env} {s : State} {m : MethodId} {below : List Frame} {meth : Method} {c : Code} (l : Launch) (hflags : l.flags = flags0) {b L : Nat} {xs : Nat → Int32} (hL : L ≤ 260) (C0 : lw_At p s m meth c b L xs) : W p l e room_1 s m #[Value.ref b] below meth c s.heap [] 0 0 (lw_Z below #[Value.ref b] s) (entryFrame m ([Value.ref b] : List Value).toArray 17) := by
  obtain ⟨hx, hb, hr, hml, hown, hts, hX, hbl, hlocks, hgv⟩ := C0
  have hst : l.stackTraces = false := by
    unfold Launch.stackTraces
    rw [hflags]
    decide +kernel
  have hd0 := Drawn.sameBut.refl s.drawn lw_cs
  obtain ⟨D, K1, V1, K2, V2, T, hE⟩ := n1_env hts hgv hX hbl
  obtain ⟨g0, hg0⟩ : ∃ g0 : xG, g0 = ((D, b, L, xs, K1, V1, K2, V2), T, (fun q => s.heap.size ≤ q), fun _ => 0) := ⟨_, rfl⟩
  have hE' : ∀ a, xE (setG g0 a) s s.heap := fun a => by rw [hg0]; exact hE a
  have hA : ∀ q, s.heap.size ≤ q → gA g0 q := fun q h => by rw [hg0]; exact h
  have hb0 : gSb g0 = b := by rw [hg0]
  have hSl : gSl g0 < 2 ^ 31 := by
    rw [hg0]
    show L < 2 ^ 31
    omega
  have hfr : ∀ (H : Heap) (locs : List Loc), va_S (gA g0) s.heap H locs → ∀ q ∈ locs, s.heap.size ≤ q.base := fun H locs hS q hq => by
    have h := hS.2.2 q hq
    rw [hg0] at h
    exact h
  have r1 : 12 ≤ room_1.frames := by decide
  have r2 : 300 ≤ room_1.locals := by decide
  have r3 : 693530 ≤ room_1.cells := Nat.le_refl _
  have r4 : 7021108 ≤ room_1.slots := Nat.le_refl _
  have hl := lv_entry ([.ref b]) (n := 17) (Nat.le_of_ble_eq_true rfl)
  rw [lg_entry_eq]
  generalize (lg_sl ([.ref b]) ++ List.replicate (17 - (lg_sl ([.ref b])).length) Slot.unset).toArray = ls at hl ⊢
  have hl : lv_has ls 17 [(0, .ref (gSb g0))] := by rw [hb0]; exact hl
  refine t_start (g0 := g0) hst hx hb hml hown hE' ⟨r1, r2⟩ hSl ⟨by omega, by omega⟩ hA hl (fun T a I n H locs ls cells slots hT hc hs hH hW hS hl => ?_)
  refine t_loop (g0 := g0) hst hx hb hml hown hE' ⟨r1, r2⟩ hSl 300 5000 T hT ⟨by omega, by omega⟩ (fun a h J n jn H locs ls cells slots hc hs hj hW ho hH hS hl => ?_) 60 0 a h00 I n 0 H locs ls cells slots (by omega) (by omega) (by omega) (by omega) (by omega) hW rfl hH hS hl
  refine u_783 (g0 := g0) (C := 693530) (D := 7021108) hst hx hb hml hown hE' ⟨r1, r2⟩ ⟨r3, r4⟩ (fun H locs ls cells slots hc hs hS => ?_) (by omega) hW ho hH (by omega) (by omega) hS hl
  refine va_forget (hfr H locs hS) ?_
  refine W.widen (k := 693530) (n := 7021108) (by omega) (by omega) ?_
  exact W.base (lw_ret hd0 hx hb hr hlocks dL_law_1454)
