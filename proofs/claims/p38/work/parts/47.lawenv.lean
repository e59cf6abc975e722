/-! THE LAW: what holds at its entry is the environment of every contract -/
section N0
variable {A : Array Value} {s : State}
theorem n0_arrP {ty : FieldType} (h : (Cond.arrayClass ty).before A s = true) : ∃ c : ClassId, ArrOfT s c ty ∧ s.vm.findClass ("[" ++ ty.toString) = some c := by
  obtain ⟨c, k, comp, h1, h2, h3⟩ := Cond.arrayClass_spec h
  exact ⟨c, fun n z => ⟨(fun k h => by cases h), k, h2, comp, h3⟩, h1⟩
theorem n0_arrO {C : String} (h : (Cond.arrayOver (.object C)).before A s = true) : ∃ c : ClassId, ArrOfT s c (.object C) ∧ va_RA s c (.object C) := by
  obtain ⟨comp, c, k, h1, -, h3, h4, h5⟩ := Cond.arrayOver_spec h
  exact ⟨c, fun n z => ⟨(fun k h => by cases h), k, h3, comp, h4⟩, k, comp, h3, h4, h1, h5⟩
theorem n0_str {own tx : String} {k : Nat} (h : (Cond.stringRef own k tx).before A s = true) : ∃ a, vk_R own k tx a s := by
  have hc : ∃ cur, s.vm.findClass own = some cur := by
    cases hq : s.vm.findClass own with
    | none =>
      unfold Cond.before Cond.holds at h
      simp only [Cond.value, hq] at h
      cases h
    | some cur => exact ⟨cur, rfl⟩
  obtain ⟨cur, hcur⟩ := hc
  obtain ⟨k1, cf, i, a, -, -, -, -, -, hev⟩ := Cond.stringRef_spec hcur h
  exact ⟨a, vk_R.of h hev⟩
end N0
section N1
variable {s : State} {b : Nat}
theorem n1_fl (hts : ∀ w ∈ lw_tbl, w.before #[Value.ref b] s = true) : ∀ w ∈ fl, w.before #[] s = true := fun w hw => by
  obtain ⟨hw1, hk⟩ := List.mem_filter.mp hw
  have hb := hts w hw1
  rw [Bool.or_eq_true, Bool.and_eq_true] at hk
  rcases hk with hk | ⟨hk1, hk2⟩
  · exact word_at (State.WarmedH.refl s) (good_of_word hk) hb
  · exact va_tabs hk1 rfl hb
theorem n1_D (hts : ∀ w ∈ gl, w.before #[Value.ref b] s = true) : ∃ D : va_G, ∀ (c : Nat) (q : vw_C), vwCl[c]? = some q → u_Kn s q.1 q.2.1 q.2.2 (D.1 c) (D.2 c) := by
  obtain ⟨c0, i0, k0⟩ := u_known hts iu0 (hts _ tw61)
  obtain ⟨c1, i1, k1⟩ := u_known hts iu1 (hts _ tw398)
  obtain ⟨c2, i2, k2⟩ := u_known hts iu2 (hts _ tw308)
  obtain ⟨c3, i3, k3⟩ := u_known hts iu3 (hts _ tw34)
  obtain ⟨c4, i4, k4⟩ := u_known hts iu4 (hts _ tw62)
  obtain ⟨c5, i5, k5⟩ := u_known hts iu5 (hts _ tw302)
  obtain ⟨c6, i6, k6⟩ := u_known hts iu6 (hts _ tw22)
  refine ⟨(fun k => match k with | 0 => c0 | 1 => c1 | 2 => c2 | 3 => c3 | 4 => c4 | 5 => c5 | _ => c6, fun k => match k with | 0 => i0 | 1 => i1 | 2 => i2 | 3 => i3 | 4 => i4 | 5 => i5 | _ => i6), fun c q hq => ?_⟩
  match c, hq with
  | 0, hq => cases hq; exact k0
  | 1, hq => cases hq; exact k1
  | 2, hq => cases hq; exact k2
  | 3, hq => cases hq; exact k3
  | 4, hq => cases hq; exact k4
  | 5, hq => cases hq; exact k5
  | 6, hq => cases hq; exact k6
  | c + 7, hq => cases hq
theorem n1_T (hts : ∀ w ∈ lw_tbl, w.before #[Value.ref b] s = true) : ∃ T : Nat → ClassId, ∀ t, t < 7 → ArrOfT s (T t) (xty t) ∧ va_RA s (T t) (xty t) := by
  obtain ⟨c0, a0, n0⟩ := n0_arrP (hts (.arrayClass .int) (by decide +kernel))
  obtain ⟨c1, a1, n1⟩ := n0_arrP (hts (.arrayClass .char) (by decide +kernel))
  obtain ⟨c2, a2, n2⟩ := n0_arrP (hts (.arrayClass .int) (by decide +kernel))
  obtain ⟨c3, a3, n3⟩ := n0_arrO (hts (.arrayOver (.object "CasebookSteps$Plan")) (by decide +kernel))
  obtain ⟨c4, a4, n4⟩ := n0_arrO (hts (.arrayOver (.object "CasebookSteps$Case")) (by decide +kernel))
  obtain ⟨c5, a5, n5⟩ := n0_arrO (hts (.arrayOver (.object "CasebookSteps$Step")) (by decide +kernel))
  obtain ⟨c6, a6, n6⟩ := n0_arrO (hts (.arrayOver (.object "CasebookSteps$Condition")) (by decide +kernel))
  refine ⟨fun t => match t with | 0 => c0 | 1 => c1 | 2 => c2 | 3 => c3 | 4 => c4 | 5 => c5 | _ => c6, fun t ht => ?_⟩
  match t, ht with
  | 0, _ => exact ⟨a0, n0⟩
  | 1, _ => exact ⟨a1, n1⟩
  | 2, _ => exact ⟨a2, n2⟩
  | 3, _ => exact ⟨a3, n3⟩
  | 4, _ => exact ⟨a4, n4⟩
  | 5, _ => exact ⟨a5, n5⟩
  | 6, _ => exact ⟨a6, n6⟩
  | t + 7, ht => exact absurd ht (by omega)
theorem n1_s1 (hts : ∀ w ∈ lw_tbl, w.before #[Value.ref b] s = true) (hgv : (Jvm.Cond.and given_1 narrow_1).before #[Value.ref b] s = true) {A : Nat → Prop} (hA : ∀ a : Nat, a < s.heap.size → ¬ A a) : ∃ K V : Nat, vk_S 1 [4] [[115, 116, 116, 109]] (fun _ => K) (fun _ => V) A s s.heap ∧ vk_R "CasebookStepsLaw" 190 "sttm" K s := by
  have hs := flat_of_before _ hgv
  have z1 : ∀ i : Nat, i < 1 → i = 0 := fun i hi => by omega
  obtain ⟨adK, adV, h1, h2⟩ := vk_Sof (args := #[Value.ref b]) (s := s) (N := 1) (tm := fun _ => .string "CasebookStepsLaw" 190) (len := [4]) (byt := [[115, 116, 116, 109]]) (A := A)
    (fun i hi => by cases z1 i hi; decide) (fun _ _ => hs _ (by decide +kernel)) (fun _ _ => hs _ (by decide +kernel)) (fun _ _ => hs _ (by decide +kernel)) (fun i hi => by cases z1 i hi; exact hs _ (by decide +kernel))
    (fun i hi j hj => by
      cases z1 i hi
      have hj : j < 4 := hj
      rcases (show j = 0 ∨ j = 1 ∨ j = 2 ∨ j = 3 by omega) with rfl | rfl | rfl | rfl
      · exact hs _ (by decide +kernel)
      · exact hs _ (by decide +kernel)
      · exact hs _ (by decide +kernel)
      · exact hs _ (by decide +kernel))
    (fun i j hi hj hij => absurd ((z1 i hi).trans (z1 j hj).symm) hij) hA
  exact ⟨adK 0, adV 0, ⟨fun i hi => by cases z1 i hi; exact h1.1 0 (by decide), fun i j hi hj _ => (z1 i hi).trans (z1 j hj).symm⟩, vk_R.of (hts (.stringRef "CasebookStepsLaw" 190 "sttm") (by decide +kernel)) (h2 0 (by decide))⟩
theorem n1_s2 (hts : ∀ w ∈ lw_tbl, w.before #[Value.ref b] s = true) (hgv : (Jvm.Cond.and given_1 narrow_1).before #[Value.ref b] s = true) {A : Nat → Prop} (hA : ∀ a : Nat, a < s.heap.size → ¬ A a) : ∃ K V : Nat, vk_S 1 [5] [[100, 108, 101, 99, 116]] (fun _ => K) (fun _ => V) A s s.heap ∧ vk_R "CasebookStepsLaw" 202 "dlect" K s := by
  have hs := flat_of_before _ hgv
  have z1 : ∀ i : Nat, i < 1 → i = 0 := fun i hi => by omega
  obtain ⟨adK, adV, h1, h2⟩ := vk_Sof (args := #[Value.ref b]) (s := s) (N := 1) (tm := fun _ => .string "CasebookStepsLaw" 202) (len := [5]) (byt := [[100, 108, 101, 99, 116]]) (A := A)
    (fun i hi => by cases z1 i hi; decide) (fun _ _ => hs _ (by decide +kernel)) (fun _ _ => hs _ (by decide +kernel)) (fun _ _ => hs _ (by decide +kernel)) (fun i hi => by cases z1 i hi; exact hs _ (by decide +kernel))
    (fun i hi j hj => by
      cases z1 i hi
      have hj : j < 5 := hj
      rcases (show j = 0 ∨ j = 1 ∨ j = 2 ∨ j = 3 ∨ j = 4 by omega) with rfl | rfl | rfl | rfl | rfl
      · exact hs _ (by decide +kernel)
      · exact hs _ (by decide +kernel)
      · exact hs _ (by decide +kernel)
      · exact hs _ (by decide +kernel)
      · exact hs _ (by decide +kernel))
    (fun i j hi hj hij => absurd ((z1 i hi).trans (z1 j hj).symm) hij) hA
  exact ⟨adK 0, adV 0, ⟨fun i hi => by cases z1 i hi; exact h1.1 0 (by decide), fun i j hi hj _ => (z1 i hi).trans (z1 j hj).symm⟩, vk_R.of (hts (.stringRef "CasebookStepsLaw" 202 "dlect") (by decide +kernel)) (h2 0 (by decide))⟩
theorem n1_env {L : Nat} {xs : Nat → Int32} (hts : ∀ w ∈ lw_tbl, w.before #[Value.ref b] s = true) (hgv : (Jvm.Cond.and given_1 narrow_1).before #[Value.ref b] s = true) (hX : va_X b L xs s s.heap) (hbl : b < s.heap.size) : ∃ (D : va_G) (K1 V1 K2 V2 : Nat) (T : Nat → ClassId), ∀ a, xE ((D, b, L, xs, K1, V1, K2, V2), T, (fun q => s.heap.size ≤ q), a) s s.heap := by
  have hgl : ∀ w ∈ gl, w.before #[Value.ref b] s = true := fun w hw => hts w (List.mem_filter.mp hw).1
  have hs := flat_of_before _ hgv
  have hA : ∀ a : Nat, a < s.heap.size → ¬ s.heap.size ≤ a := fun a h => Nat.not_le.mpr h
  obtain ⟨D, hD⟩ := n1_D hgl
  obtain ⟨T, hT⟩ := n1_T hts
  obtain ⟨K1, V1, e1⟩ := n1_s1 hts hgv hA
  obtain ⟨K2, V2, e2⟩ := n1_s2 hts hgv hA
  obtain ⟨scr, x1, x2, x3, x4, x5⟩ := hX
  refine ⟨D, K1, V1, K2, V2, T, fun a => ⟨⟨hD, fun k q hk => ?_⟩, n1_fl hts, ?_, ?_, ?_, ?_, ?_, ?_, ?_, ?_, e1, e2, ⟨scr, x1, x2, x3, Nat.le_of_eq x4.symm, by rw [x4], x5, hA _ hbl⟩⟩⟩
  · have hk2 : (List.range 7)[k]?.map (fun t => (T t, xty t)) = some q := by rw [← List.getElem?_map]; exact hk
    obtain ⟨t, ht, rfl⟩ := Option.map_eq_some_iff.mp hk2
    exact hT t (List.mem_range.mp (List.mem_of_getElem? ht))
  · intro C hC
    exact va_AO.of (hts (.arrayOver (.object C)) ((by decide +kernel : ∀ C ∈ xAO, Cond.arrayOver (.object C) ∈ lw_tbl) C hC))
  · intro q hq
    exact va_Nw.of rfl (hts (.methodLinkNest q.1 q.2.1 q.2.2.1 q.2.2.2) ((by decide +kernel : ∀ q ∈ xNest, Cond.methodLinkNest q.1 q.2.1 q.2.2.1 q.2.2.2 ∈ lw_tbl) q hq))
  · intro q hq
    exact n0_str (hts (.stringRef "CasebookSteps" q.1 q.2) ((by decide +kernel : ∀ q ∈ xStr, Cond.stringRef "CasebookSteps" q.1 q.2 ∈ lw_tbl) q hq))
  · exact vx_Zqof (hts (.laysStatic Bundle.tN "UNASSIGNED_STACK" Bundle.steD) (by decide +kernel)) (hts (.initialized Bundle.tN) (by decide +kernel)) (hs (.isRef (.static Bundle.tN "UNASSIGNED_STACK" Bundle.steD)) (by decide +kernel)) hA
  · exact vx_Zqof (hts (.laysStatic Bundle.tN "SUPPRESSED_SENTINEL" Bundle.listD) (by decide +kernel)) (hts (.initialized Bundle.tN) (by decide +kernel)) (hs (.isRef (.static Bundle.tN "SUPPRESSED_SENTINEL" Bundle.listD)) (by decide +kernel)) hA
  · intro q hq
    exact va_Nc.of (hs (.not (.castable q.1 q.2)) ((by decide +kernel : ∀ q ∈ xNl, Cond.not (.castable q.1 q.2) ∈ flatC (Jvm.Cond.and given_1 narrow_1)) q hq))
  · exact va_Zof (hts (.laysStatic "java/lang/String" "COMPACT_STRINGS" "Z") (by decide +kernel)) (hgl _ tw13) (va_eqt (hs (.eq (.static "java/lang/String" "COMPACT_STRINGS" "Z") (.int 1)) (by decide +kernel))) hA
  · exact va_Zqof (hts (.laysStatic "jdk/internal/util/Preconditions" "SIOOBE_FORMATTER" "Ljava/util/function/BiFunction;") (by decide +kernel)) (hgl _ tw15) (hs (.isRef (.static "jdk/internal/util/Preconditions" "SIOOBE_FORMATTER" "Ljava/util/function/BiFunction;")) (by decide +kernel)) hA
end N1
