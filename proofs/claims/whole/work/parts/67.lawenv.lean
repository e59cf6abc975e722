/-! THE LAW: what holds at its entry is the environment of every contract -/
section N0
variable {A : Array Value} {s : State}
theorem n0_arrP {ty : FieldType} (h : (Cond.arrayClass ty).before A s = true) : ∃ c : ClassId, ArrOfT s c ty ∧ s.vm.findClass ("[" ++ ty.toString) = some c := by
  obtain ⟨c, k, comp, h1, h2, h3⟩ := Cond.arrayClass_spec h
  exact ⟨c, fun n z => ⟨(fun k h => by cases h), k, h2, comp, h3⟩, h1⟩
theorem n0_arrO {C : String} (h : (Cond.arrayOver (.object C)).before A s = true) : ∃ c : ClassId, ArrOfT s c (.object C) ∧ va_RA s c (.object C) := by
  obtain ⟨comp, c, k, h1, -, h3, h4, h5⟩ := Cond.arrayOver_spec h
  exact ⟨c, fun n z => ⟨(fun k h => by cases h), k, h3, comp, h4⟩, k, comp, h3, h4, h1, h5⟩
theorem n0_str {own tx : String} {k : Nat} (h : (Cond.stringRef own k tx).before A s = true) : ∃ a, vk_R own k tx a s := by
  have hc : ∃ cur, s.vm.findClass own = some cur := by
    cases hq : s.vm.findClass own with
    | none =>
      unfold Cond.before Cond.holds at h
      simp only [Cond.value, hq] at h
      cases h
    | some cur => exact ⟨cur, rfl⟩
  obtain ⟨cur, hcur⟩ := hc
  obtain ⟨k1, cf, i, a, -, -, -, -, -, hev⟩ := Cond.stringRef_spec hcur h
  exact ⟨a, vk_R.of h hev⟩
theorem n0_over {t : FieldType} (h : (Cond.arrayOver (.array t)).before A s = true) : ∃ (comp c : ClassId) (k : Class), s.vm.findClass (FieldType.array t).toString = some comp ∧ s.vm.classes[c]? = some k ∧ k.kind = .array comp (.array t) ∧ s.vm.findClass ("[" ++ (FieldType.array t).toString) = some c := by
  unfold Cond.before Cond.holds at h
  simp only [Cond.value, beq_iff_eq, Option.bind_eq_some_iff, Option.map_eq_some_iff] at h
  obtain ⟨comp, q1, c, q2, k, q3, q4⟩ := h
  obtain ⟨q0, q5, -⟩ := Array.findIdx?_eq_some_iff_getElem.mp q2
  rw [(Array.getElem?_eq_some_iff.mp q3).2] at q5
  split at q4
  · rename_i co ty hk
    rw [hk] at q5
    simp only [Bool.and_eq_true, decide_eq_true_eq] at q4
    have q6 : co = comp := by simpa using q5
    exact ⟨comp, c, k, q1, q3, by rw [hk, q6, q4.1], q4.2⟩
  · cases q4
theorem n0_arrA {t : FieldType} {tc : ClassId} (h0 : s.vm.findClass ("[" ++ t.toString) = some tc) (h : (Cond.arrayOver (.array t)).before A s = true) : ∃ c : ClassId, ArrOfT s c (.array t) ∧ s.vm.findClass ("[" ++ (FieldType.array t).toString) = some c ∧ ∃ k : Class, s.vm.classes[c]? = some k ∧ k.kind = .array tc (.array t) := by
  obtain ⟨comp, c, k, q1, q3, q4, q5⟩ := n0_over h
  have e : comp = tc := Option.some.inj (q1.symm.trans h0)
  rw [e] at q4
  exact ⟨c, fun n z => ⟨(fun k h => by cases h), k, q3, tc, q4⟩, q5, k, q3, q4⟩
end N0
section N1
variable {s : State} {b : Nat}
theorem n1_fl (hts : ∀ w ∈ lw_tbl, w.before #[Value.ref b] s = true) : ∀ w ∈ fl, w.before #[] s = true := fun w hw => by
  obtain ⟨hw1, hk⟩ := List.mem_filter.mp hw
  have hb := hts w hw1
  rw [Bool.or_eq_true, Bool.and_eq_true] at hk
  rcases hk with hk | ⟨hk1, hk2⟩
  · exact word_at (State.WarmedH.refl s) (good_of_word hk) hb
  · exact va_tabs hk1 rfl hb
theorem n1_D (hts : ∀ w ∈ gl, w.before #[Value.ref b] s = true) : ∃ D : va_G, ∀ (c : Nat) (q : vw_C), vwCl[c]? = some q → u_Kn s q.1 q.2.1 q.2.2 (D.1 c) (D.2 c) := by
  obtain ⟨c0, i0, k0⟩ := u_known hts iu0 (hts _ tw57)
  obtain ⟨c1, i1, k1⟩ := u_known hts iu1 (hts _ tw403)
  obtain ⟨c2, i2, k2⟩ := u_known hts iu2 (hts _ tw314)
  obtain ⟨c3, i3, k3⟩ := u_known hts iu3 (hts _ tw30)
  obtain ⟨c4, i4, k4⟩ := u_known hts iu4 (hts _ tw58)
  obtain ⟨c5, i5, k5⟩ := u_known hts iu5 (hts _ tw308)
  obtain ⟨c6, i6, k6⟩ := u_known hts iu6 (hts _ tw18)
  obtain ⟨c7, i7, k7⟩ := u_known hts iu7 (hts _ tw824)
  refine ⟨(fun k => match k with | 0 => c0 | 1 => c1 | 2 => c2 | 3 => c3 | 4 => c4 | 5 => c5 | 6 => c6 | _ => c7, fun k => match k with | 0 => i0 | 1 => i1 | 2 => i2 | 3 => i3 | 4 => i4 | 5 => i5 | 6 => i6 | _ => i7), fun c q hq => ?_⟩
  match c, hq with
  | 0, hq => cases hq; exact k0
  | 1, hq => cases hq; exact k1
  | 2, hq => cases hq; exact k2
  | 3, hq => cases hq; exact k3
  | 4, hq => cases hq; exact k4
  | 5, hq => cases hq; exact k5
  | 6, hq => cases hq; exact k6
  | 7, hq => cases hq; exact k7
  | c + 8, hq => cases hq
theorem n1_T (hts : ∀ w ∈ lw_tbl, w.before #[Value.ref b] s = true) : ∃ T : Nat → ClassId, (∀ t, t < 14 → ArrOfT s (T t) (xty t) ∧ va_RA s (T t) (xty t)) ∧
    (∃ k : Class, s.vm.classes[T 7]? = some k ∧ k.kind = .array (T 0) (xty 7)) ∧ (∃ k : Class, s.vm.classes[T 8]? = some k ∧ k.kind = .array (T 1) (xty 8)) ∧ (∃ k : Class, s.vm.classes[T 9]? = some k ∧ k.kind = .array (T 2) (xty 9)) ∧ (∃ k : Class, s.vm.classes[T 10]? = some k ∧ k.kind = .array (T 7) (xty 10)) ∧ ∃ k : Class, s.vm.classes[T 11]? = some k ∧ k.kind = .array (T 8) (xty 11) := by
  obtain ⟨c0, a0, n0⟩ := n0_arrP (hts (.arrayClass .int) (by decide +kernel))
  obtain ⟨c1, a1, n1⟩ := n0_arrP (hts (.arrayClass .char) (by decide +kernel))
  obtain ⟨c2, a2, n2⟩ := n0_arrP (hts (.arrayClass .boolean) (by decide +kernel))
  obtain ⟨c3, a3, n3⟩ := n0_arrO (hts (.arrayOver (.object "CasebookSteps$Plan")) (by decide +kernel))
  obtain ⟨c4, a4, n4⟩ := n0_arrO (hts (.arrayOver (.object "CasebookSteps$Case")) (by decide +kernel))
  obtain ⟨c5, a5, n5⟩ := n0_arrO (hts (.arrayOver (.object "CasebookSteps$Step")) (by decide +kernel))
  obtain ⟨c6, a6, n6⟩ := n0_arrO (hts (.arrayOver (.object "CasebookSteps$Condition")) (by decide +kernel))
  obtain ⟨c7, a7, n7, m7⟩ := n0_arrA n0 (hts (.arrayOver (.array .int)) (by decide +kernel))
  obtain ⟨c8, a8, n8, m8⟩ := n0_arrA n1 (hts (.arrayOver (.array .char)) (by decide +kernel))
  obtain ⟨c9, a9, n9, m9⟩ := n0_arrA n2 (hts (.arrayOver (.array .boolean)) (by decide +kernel))
  obtain ⟨c10, a10, n10, m10⟩ := n0_arrA n7 (hts (.arrayOver (.array (.array .int))) (by decide +kernel))
  obtain ⟨c11, a11, n11, m11⟩ := n0_arrA n8 (hts (.arrayOver (.array (.array .char))) (by decide +kernel))
  obtain ⟨c12, a12, n12⟩ := n0_arrP (hts (.arrayClass .long) (by decide +kernel))
  obtain ⟨c13, a13, n13⟩ := n0_arrP (hts (.arrayClass .double) (by decide +kernel))
  refine ⟨fun t => match t with | 0 => c0 | 1 => c1 | 2 => c2 | 3 => c3 | 4 => c4 | 5 => c5 | 6 => c6 | 7 => c7 | 8 => c8 | 9 => c9 | 10 => c10 | 11 => c11 | 12 => c12 | _ => c13, fun t ht => ?_, m7, m8, m9, m10, m11⟩
  match t, ht with
  | 0, _ => exact ⟨a0, n0⟩
  | 1, _ => exact ⟨a1, n1⟩
  | 2, _ => exact ⟨a2, n2⟩
  | 3, _ => exact ⟨a3, n3⟩
  | 4, _ => exact ⟨a4, n4⟩
  | 5, _ => exact ⟨a5, n5⟩
  | 6, _ => exact ⟨a6, n6⟩
  | 7, _ => exact ⟨a7, n7⟩
  | 8, _ => exact ⟨a8, n8⟩
  | 9, _ => exact ⟨a9, n9⟩
  | 10, _ => exact ⟨a10, n10⟩
  | 11, _ => exact ⟨a11, n11⟩
  | 12, _ => exact ⟨a12, n12⟩
  | 13, _ => exact ⟨a13, n13⟩
  | t + 14, ht => exact absurd ht (by omega)
theorem n1_env (hts : ∀ w ∈ lw_tbl, w.before #[Value.ref b] s = true) (hgv : (Jvm.Cond.and given_1 narrow_1).before #[Value.ref b] s = true) : ∃ (D : va_G) (T : Nat → ClassId), (∀ a, xE (D, T, (fun q => s.heap.size ≤ q), a) s s.heap) ∧ xLs s ∧ ∀ a, xCs (D, T, (fun q => s.heap.size ≤ q), a) s := by
  have hgl : ∀ w ∈ gl, w.before #[Value.ref b] s = true := fun w hw => hts w (List.mem_filter.mp hw).1
  have hs := flat_of_before _ hgv
  obtain ⟨D, hD⟩ := n1_D hgl
  obtain ⟨T, hT, m7, m8, m9, m10, m11⟩ := n1_T hts
  refine ⟨D, T, fun a => ⟨⟨hD, fun k q hk => ?_⟩, n1_fl hts, ?_, ?_, ?_, ?_, ?_⟩, ?_, fun a => ⟨m7, m8, m9, m10, m11⟩⟩
  · have hk2 : (List.range 14)[k]?.map (fun t => (T t, xty t)) = some q := by rw [← List.getElem?_map]; exact hk
    obtain ⟨t, ht, rfl⟩ := Option.map_eq_some_iff.mp hk2
    exact hT t (List.mem_range.mp (List.mem_of_getElem? ht))
  · intro C hC
    exact va_AO.of (hts (.arrayOver (.object C)) ((by decide +kernel : ∀ C ∈ xAO, Cond.arrayOver (.object C) ∈ lw_tbl) C hC))
  · intro q hq
    exact va_Nw.of rfl (hts (.methodLinkNest q.1 q.2.1 q.2.2.1 q.2.2.2) ((by decide +kernel : ∀ q ∈ xNest, Cond.methodLinkNest q.1 q.2.1 q.2.2.1 q.2.2.2 ∈ lw_tbl) q hq))
  · intro q hq
    exact n0_str (hts (.stringRef "CasebookSteps" q.1 q.2) ((by decide +kernel : ∀ q ∈ xStr, Cond.stringRef "CasebookSteps" q.1 q.2 ∈ lw_tbl) q hq))
  · exact vx_Zqof (hts (.laysStatic Bundle.tN "UNASSIGNED_STACK" Bundle.steD) (by decide +kernel)) (hts (.initialized Bundle.tN) (by decide +kernel)) (hs (.isRef (.static Bundle.tN "UNASSIGNED_STACK" Bundle.steD)) (by decide +kernel)) (fun a h => Nat.not_le.mpr h)
  · exact vx_Zqof (hts (.laysStatic Bundle.tN "SUPPRESSED_SENTINEL" Bundle.listD) (by decide +kernel)) (hts (.initialized Bundle.tN) (by decide +kernel)) (hs (.isRef (.static Bundle.tN "SUPPRESSED_SENTINEL" Bundle.listD)) (by decide +kernel)) (fun a h => Nat.not_le.mpr h)
  · intro q hq
    exact va_Nc.of (hs (.not (.castable q.1 q.2)) ((by decide +kernel : ∀ q ∈ xNl, Cond.not (.castable q.1 q.2) ∈ flatC (Jvm.Cond.and given_1 narrow_1)) q hq))
end N1
