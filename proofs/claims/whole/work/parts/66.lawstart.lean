/-! THE LAW: its start -/
def aSt (N : Nat) (id : List Nat) : Nat := match id with
  | [0] => N
  | [1] => N + 1
  | [2] => N + 1 + 1
  | [3] => N + 1 + 2
  | [4, 0] => N + 1 + 3
  | [4, 1] => N + 1 + 4
  | [4, 2] => N + 1 + 5
  | [4, 3] => N + 1 + 6
  | [11, 4, 0] => N + 1 + 7
  | [5, 3] => N + 1 + 8
  | [6, 3] => N + 1 + 9
  | [11, 4, 1] => N + 1 + 10
  | [11, 4, 2] => N + 1 + 11
  | [11, 4, 3] => N + 1 + 12
  | [11, 4, 4] => N + 1 + 13
  | [11, 4, 5] => N + 1 + 14
  | [20] => N + 16
  | [21, 0] => (N + 17)
  | [22, 0, i] => (N + 17) + 1 + i
  | [21, 1] => (N + 17) + 4
  | [22, 1, i] => (N + 17) + 5 + i
  | [21, 2] => (N + 17) + 8
  | [22, 2, i] => (N + 17) + 9 + i
  | [21, 3] => (N + 17) + 12
  | [22, 3, i] => (N + 17) + 13 + i
  | [21, 4] => (N + 17) + 16
  | [22, 4, i] => (N + 17) + 17 + i * 9
  | [23, 4, i, j] => (N + 17) + 18 + i * 9 + j
  | [21, 5] => (N + 17) + 44
  | [22, 5, i] => (N + 17) + 45 + i * 9
  | [23, 5, i, j] => (N + 17) + 46 + i * 9 + j
  | [21, 6] => (N + 17) + 72
  | [22, 6, i] => (N + 17) + 73 + i * 9
  | [23, 6, i, j] => (N + 17) + 74 + i * 9 + j
  | [21, 7] => (N + 17) + 100
  | [22, 7, i] => (N + 17) + 101 + i * 9
  | [23, 7, i, j] => (N + 17) + 102 + i * 9 + j
  | [24, 8] => (N + 17) + 128
  | [24, 9] => (N + 17) + 129
  | [24, 11] => (N + 17) + 130
  | [21, 12] => (N + 17) + 131
  | [22, 12, i] => (N + 17) + 132 + i
  | [24, 13] => (N + 17) + 136
  | [21, 14] => (N + 17) + 137
  | [22, 14, i] => (N + 17) + 138 + i
  | [21, 15] => (N + 17) + 142
  | [22, 15, i] => (N + 17) + 143 + i
  | [21, 16] => (N + 17) + 147
  | [22, 16, i] => (N + 17) + 148 + i
  | [24, 17] => (N + 17) + 152
  | [24, 18] => (N + 17) + 153
  | [24, 19] => (N + 17) + 154
  | [24, 22] => (N + 17) + 155
  | [30] => N + 173
  | [31] => N + 174
  | _ => N
abbrev sD6 (dm : List Nat → Prop) : List Nat → Prop := (fun i => i = [11, 4, 5] ∨ (fun i => i = [11, 4, 4] ∨ (fun i => i = [11, 4, 3] ∨ (fun i => i = [11, 4, 2] ∨ (fun i => i = [11, 4, 1] ∨ (fun i => i = [6, 3] ∨ (fun i => i = [5, 3] ∨ (fun i => i = [11, 4, 0] ∨ (fun i => i = [4, 3] ∨ (fun i => i = [4, 2] ∨ (fun i => i = [4, 1] ∨ (fun i => i = [4, 0] ∨ (fun i => i = [3] ∨ (fun i => i = [2] ∨ (fun i => i = [1] ∨ dm i) i) i) i) i) i) i) i) i) i) i) i) i) i) i)
abbrev sI6 (I : xI) : xI := upR (upR (upR (upR (upR (upR (upR (upR (upR (upR (upR (upR (upR (upR (upR (upR I [0] r0) [1] r0) [2] r0) [3] r0) [4, 0] r0) [4, 1] r0) [4, 2] r0) [4, 3] r0) [11, 4, 0] rK) [5, 3] (rP (-1))) [6, 3] r0) [11, 4, 1] r0) [11, 4, 2] r0) [11, 4, 3] r0) [11, 4, 4] r0) [11, 4, 5] r0
abbrev sF6 (F : xF) : xF := upR (upR (upR (upR (upR (upR (upR (upR (upR (upR (upR (upR (upR (upR (upR (upR F [0] qM) [1] q0) [2] q0) [3] qJ) [4, 0] q0) [4, 1] q0) [4, 2] q0) [4, 3] q0) [11, 4, 0] (qK 4 [5, 3])) [5, 3] (q1 1 [6, 3])) [6, 3] q0) [11, 4, 1] q0) [11, 4, 2] q0) [11, 4, 3] q0) [11, 4, 4] q0) [11, 4, 5] q0
abbrev sD7 (dm : List Nat → Prop) : List Nat → Prop := (fun i => i = [24, 22] ∨ (fun i => i = [24, 19] ∨ (fun i => i = [24, 18] ∨ (fun i => i = [24, 17] ∨ (fun i => (i = [21, 16] ∨ ∃ k, k < 4 ∧ i = [22, 16, k]) ∨ (fun i => (i = [21, 15] ∨ ∃ k, k < 4 ∧ i = [22, 15, k]) ∨ (fun i => (i = [21, 14] ∨ ∃ k, k < 4 ∧ i = [22, 14, k]) ∨ (fun i => i = [24, 13] ∨ (fun i => (i = [21, 12] ∨ ∃ k, k < 4 ∧ i = [22, 12, k]) ∨ (fun i => i = [24, 11] ∨ (fun i => i = [24, 9] ∨ (fun i => i = [24, 8] ∨ (fun i => (i = [21, 7] ∨ (∃ k, k < 3 ∧ i = [22, 7, k]) ∨ ∃ k j, k < 3 ∧ j < 8 ∧ i = [23, 7, k, j]) ∨ (fun i => (i = [21, 6] ∨ (∃ k, k < 3 ∧ i = [22, 6, k]) ∨ ∃ k j, k < 3 ∧ j < 8 ∧ i = [23, 6, k, j]) ∨ (fun i => (i = [21, 5] ∨ (∃ k, k < 3 ∧ i = [22, 5, k]) ∨ ∃ k j, k < 3 ∧ j < 8 ∧ i = [23, 5, k, j]) ∨ (fun i => (i = [21, 4] ∨ (∃ k, k < 3 ∧ i = [22, 4, k]) ∨ ∃ k j, k < 3 ∧ j < 8 ∧ i = [23, 4, k, j]) ∨ (fun i => (i = [21, 3] ∨ ∃ k, k < 3 ∧ i = [22, 3, k]) ∨ (fun i => (i = [21, 2] ∨ ∃ k, k < 3 ∧ i = [22, 2, k]) ∨ (fun i => (i = [21, 1] ∨ ∃ k, k < 3 ∧ i = [22, 1, k]) ∨ (fun i => (i = [21, 0] ∨ ∃ k, k < 3 ∧ i = [22, 0, k]) ∨ dm i) i) i) i) i) i) i) i) i) i) i) i) i) i) i) i) i) i) i) i)
abbrev sDz : List Nat → Prop := fun i => i = [31] ∨ (fun i => i = [30] ∨ sD7 (fun i => i = [20] ∨ sD6 (fun i => i = [0] ∨ (fun _ => False) i) i) i) i
theorem sDz_all (i : List Nat) (hi : xD h00 i) : sDz i := by
  have no : ∀ {k : Nat} {P : Prop}, k < 0 → P := fun hk => absurd hk (Nat.not_lt_zero _)
  unfold xD at hi
  split at hi
  · exact (Or.inr (Or.inr (Or.inr (Or.inr (Or.inr (Or.inr (Or.inr (Or.inr (Or.inr (Or.inr (Or.inr (Or.inr (Or.inr (Or.inr (Or.inr (Or.inr (Or.inr (Or.inr (Or.inr (Or.inr (Or.inr (Or.inr (Or.inr (Or.inr (Or.inr (Or.inr (Or.inr (Or.inr (Or.inr (Or.inr (Or.inr (Or.inr (Or.inr (Or.inr (Or.inr (Or.inr (Or.inr (Or.inr (Or.inl rfl)))))))))))))))))))))))))))))))))))))))
  · exact (Or.inr (Or.inr (Or.inr (Or.inr (Or.inr (Or.inr (Or.inr (Or.inr (Or.inr (Or.inr (Or.inr (Or.inr (Or.inr (Or.inr (Or.inr (Or.inr (Or.inr (Or.inr (Or.inr (Or.inr (Or.inr (Or.inr (Or.inr (Or.inr (Or.inr (Or.inr (Or.inr (Or.inr (Or.inr (Or.inr (Or.inr (Or.inr (Or.inr (Or.inr (Or.inr (Or.inr (Or.inr (Or.inl rfl))))))))))))))))))))))))))))))))))))))
  · exact (Or.inr (Or.inr (Or.inr (Or.inr (Or.inr (Or.inr (Or.inr (Or.inr (Or.inr (Or.inr (Or.inr (Or.inr (Or.inr (Or.inr (Or.inr (Or.inr (Or.inr (Or.inr (Or.inr (Or.inr (Or.inr (Or.inr (Or.inr (Or.inr (Or.inr (Or.inr (Or.inr (Or.inr (Or.inr (Or.inr (Or.inr (Or.inr (Or.inr (Or.inr (Or.inr (Or.inr (Or.inl rfl)))))))))))))))))))))))))))))))))))))
  · exact (Or.inr (Or.inr (Or.inr (Or.inr (Or.inr (Or.inr (Or.inr (Or.inr (Or.inr (Or.inr (Or.inr (Or.inr (Or.inr (Or.inr (Or.inr (Or.inr (Or.inr (Or.inr (Or.inr (Or.inr (Or.inr (Or.inr (Or.inr (Or.inr (Or.inr (Or.inr (Or.inr (Or.inr (Or.inr (Or.inr (Or.inr (Or.inr (Or.inr (Or.inr (Or.inr (Or.inl rfl))))))))))))))))))))))))))))))))))))
  · rename_i q
    rcases (show q = 0 ∨ q = 1 ∨ q = 2 ∨ q = 3 by omega) with rfl | rfl | rfl | rfl
    · exact (Or.inr (Or.inr (Or.inr (Or.inr (Or.inr (Or.inr (Or.inr (Or.inr (Or.inr (Or.inr (Or.inr (Or.inr (Or.inr (Or.inr (Or.inr (Or.inr (Or.inr (Or.inr (Or.inr (Or.inr (Or.inr (Or.inr (Or.inr (Or.inr (Or.inr (Or.inr (Or.inr (Or.inr (Or.inr (Or.inr (Or.inr (Or.inr (Or.inr (Or.inr (Or.inl rfl)))))))))))))))))))))))))))))))))))
    · exact (Or.inr (Or.inr (Or.inr (Or.inr (Or.inr (Or.inr (Or.inr (Or.inr (Or.inr (Or.inr (Or.inr (Or.inr (Or.inr (Or.inr (Or.inr (Or.inr (Or.inr (Or.inr (Or.inr (Or.inr (Or.inr (Or.inr (Or.inr (Or.inr (Or.inr (Or.inr (Or.inr (Or.inr (Or.inr (Or.inr (Or.inr (Or.inr (Or.inr (Or.inl rfl))))))))))))))))))))))))))))))))))
    · exact (Or.inr (Or.inr (Or.inr (Or.inr (Or.inr (Or.inr (Or.inr (Or.inr (Or.inr (Or.inr (Or.inr (Or.inr (Or.inr (Or.inr (Or.inr (Or.inr (Or.inr (Or.inr (Or.inr (Or.inr (Or.inr (Or.inr (Or.inr (Or.inr (Or.inr (Or.inr (Or.inr (Or.inr (Or.inr (Or.inr (Or.inr (Or.inr (Or.inl rfl)))))))))))))))))))))))))))))))))
    · exact (Or.inr (Or.inr (Or.inr (Or.inr (Or.inr (Or.inr (Or.inr (Or.inr (Or.inr (Or.inr (Or.inr (Or.inr (Or.inr (Or.inr (Or.inr (Or.inr (Or.inr (Or.inr (Or.inr (Or.inr (Or.inr (Or.inr (Or.inr (Or.inr (Or.inr (Or.inr (Or.inr (Or.inr (Or.inr (Or.inr (Or.inr (Or.inl rfl))))))))))))))))))))))))))))))))
  · rcases hi with hi | rfl
    · exact no hi
    · exact (Or.inr (Or.inr (Or.inr (Or.inr (Or.inr (Or.inr (Or.inr (Or.inr (Or.inr (Or.inr (Or.inr (Or.inr (Or.inr (Or.inr (Or.inr (Or.inr (Or.inr (Or.inr (Or.inr (Or.inr (Or.inr (Or.inr (Or.inr (Or.inr (Or.inr (Or.inr (Or.inr (Or.inr (Or.inr (Or.inl rfl))))))))))))))))))))))))))))))
  · rcases hi with hi | rfl
    · exact no hi
    · exact (Or.inr (Or.inr (Or.inr (Or.inr (Or.inr (Or.inr (Or.inr (Or.inr (Or.inr (Or.inr (Or.inr (Or.inr (Or.inr (Or.inr (Or.inr (Or.inr (Or.inr (Or.inr (Or.inr (Or.inr (Or.inr (Or.inr (Or.inr (Or.inr (Or.inr (Or.inr (Or.inr (Or.inr (Or.inl rfl)))))))))))))))))))))))))))))
  · exact no hi.1
  · exact no hi.1
  · exact no hi.1
  · exact no hi.1
  · rename_i c f
    obtain ⟨hc, hf⟩ := hi
    rcases hc with hc | rfl
    · exact no hc
    · rcases (show f = 0 ∨ f = 1 ∨ f = 2 ∨ f = 3 ∨ f = 4 ∨ f = 5 by omega) with rfl | rfl | rfl | rfl | rfl | rfl
      · exact (Or.inr (Or.inr (Or.inr (Or.inr (Or.inr (Or.inr (Or.inr (Or.inr (Or.inr (Or.inr (Or.inr (Or.inr (Or.inr (Or.inr (Or.inr (Or.inr (Or.inr (Or.inr (Or.inr (Or.inr (Or.inr (Or.inr (Or.inr (Or.inr (Or.inr (Or.inr (Or.inr (Or.inr (Or.inr (Or.inr (Or.inl rfl)))))))))))))))))))))))))))))))
      · exact (Or.inr (Or.inr (Or.inr (Or.inr (Or.inr (Or.inr (Or.inr (Or.inr (Or.inr (Or.inr (Or.inr (Or.inr (Or.inr (Or.inr (Or.inr (Or.inr (Or.inr (Or.inr (Or.inr (Or.inr (Or.inr (Or.inr (Or.inr (Or.inr (Or.inr (Or.inr (Or.inr (Or.inl rfl))))))))))))))))))))))))))))
      · exact (Or.inr (Or.inr (Or.inr (Or.inr (Or.inr (Or.inr (Or.inr (Or.inr (Or.inr (Or.inr (Or.inr (Or.inr (Or.inr (Or.inr (Or.inr (Or.inr (Or.inr (Or.inr (Or.inr (Or.inr (Or.inr (Or.inr (Or.inr (Or.inr (Or.inr (Or.inr (Or.inl rfl)))))))))))))))))))))))))))
      · exact (Or.inr (Or.inr (Or.inr (Or.inr (Or.inr (Or.inr (Or.inr (Or.inr (Or.inr (Or.inr (Or.inr (Or.inr (Or.inr (Or.inr (Or.inr (Or.inr (Or.inr (Or.inr (Or.inr (Or.inr (Or.inr (Or.inr (Or.inr (Or.inr (Or.inr (Or.inl rfl))))))))))))))))))))))))))
      · exact (Or.inr (Or.inr (Or.inr (Or.inr (Or.inr (Or.inr (Or.inr (Or.inr (Or.inr (Or.inr (Or.inr (Or.inr (Or.inr (Or.inr (Or.inr (Or.inr (Or.inr (Or.inr (Or.inr (Or.inr (Or.inr (Or.inr (Or.inr (Or.inr (Or.inl rfl)))))))))))))))))))))))))
      · exact (Or.inr (Or.inr (Or.inr (Or.inr (Or.inr (Or.inr (Or.inr (Or.inr (Or.inr (Or.inr (Or.inr (Or.inr (Or.inr (Or.inr (Or.inr (Or.inr (Or.inr (Or.inr (Or.inr (Or.inr (Or.inr (Or.inr (Or.inr (Or.inl rfl))))))))))))))))))))))))
  · exact (Or.inr (Or.inr (Or.inr (Or.inr (Or.inr (Or.inr (Or.inr (Or.inr (Or.inr (Or.inr (Or.inr (Or.inr (Or.inr (Or.inr (Or.inr (Or.inr (Or.inr (Or.inr (Or.inr (Or.inr (Or.inr (Or.inr (Or.inl rfl)))))))))))))))))))))))
  · rename_i f
    rcases (show f = 0 ∨ f = 1 ∨ f = 2 ∨ f = 3 ∨ f = 4 ∨ f = 5 ∨ f = 6 ∨ f = 7 ∨ f = 12 ∨ f = 14 ∨ f = 15 ∨ f = 16 by omega) with rfl | rfl | rfl | rfl | rfl | rfl | rfl | rfl | rfl | rfl | rfl | rfl
    · exact (Or.inr (Or.inr (Or.inr (Or.inr (Or.inr (Or.inr (Or.inr (Or.inr (Or.inr (Or.inr (Or.inr (Or.inr (Or.inr (Or.inr (Or.inr (Or.inr (Or.inr (Or.inr (Or.inr (Or.inr (Or.inr (Or.inl (Or.inl rfl)))))))))))))))))))))))
    · exact (Or.inr (Or.inr (Or.inr (Or.inr (Or.inr (Or.inr (Or.inr (Or.inr (Or.inr (Or.inr (Or.inr (Or.inr (Or.inr (Or.inr (Or.inr (Or.inr (Or.inr (Or.inr (Or.inr (Or.inr (Or.inl (Or.inl rfl))))))))))))))))))))))
    · exact (Or.inr (Or.inr (Or.inr (Or.inr (Or.inr (Or.inr (Or.inr (Or.inr (Or.inr (Or.inr (Or.inr (Or.inr (Or.inr (Or.inr (Or.inr (Or.inr (Or.inr (Or.inr (Or.inr (Or.inl (Or.inl rfl)))))))))))))))))))))
    · exact (Or.inr (Or.inr (Or.inr (Or.inr (Or.inr (Or.inr (Or.inr (Or.inr (Or.inr (Or.inr (Or.inr (Or.inr (Or.inr (Or.inr (Or.inr (Or.inr (Or.inr (Or.inr (Or.inl (Or.inl rfl))))))))))))))))))))
    · exact (Or.inr (Or.inr (Or.inr (Or.inr (Or.inr (Or.inr (Or.inr (Or.inr (Or.inr (Or.inr (Or.inr (Or.inr (Or.inr (Or.inr (Or.inr (Or.inr (Or.inr (Or.inl (Or.inl rfl)))))))))))))))))))
    · exact (Or.inr (Or.inr (Or.inr (Or.inr (Or.inr (Or.inr (Or.inr (Or.inr (Or.inr (Or.inr (Or.inr (Or.inr (Or.inr (Or.inr (Or.inr (Or.inr (Or.inl (Or.inl rfl))))))))))))))))))
    · exact (Or.inr (Or.inr (Or.inr (Or.inr (Or.inr (Or.inr (Or.inr (Or.inr (Or.inr (Or.inr (Or.inr (Or.inr (Or.inr (Or.inr (Or.inr (Or.inl (Or.inl rfl)))))))))))))))))
    · exact (Or.inr (Or.inr (Or.inr (Or.inr (Or.inr (Or.inr (Or.inr (Or.inr (Or.inr (Or.inr (Or.inr (Or.inr (Or.inr (Or.inr (Or.inl (Or.inl rfl))))))))))))))))
    · exact (Or.inr (Or.inr (Or.inr (Or.inr (Or.inr (Or.inr (Or.inr (Or.inr (Or.inr (Or.inr (Or.inl (Or.inl rfl))))))))))))
    · exact (Or.inr (Or.inr (Or.inr (Or.inr (Or.inr (Or.inr (Or.inr (Or.inr (Or.inl (Or.inl rfl))))))))))
    · exact (Or.inr (Or.inr (Or.inr (Or.inr (Or.inr (Or.inr (Or.inr (Or.inl (Or.inl rfl)))))))))
    · exact (Or.inr (Or.inr (Or.inr (Or.inr (Or.inr (Or.inr (Or.inl (Or.inl rfl))))))))
  · rename_i f k
    rcases hi with ⟨hf, hk⟩ | ⟨hf, hk⟩
    · rcases (show f = 0 ∨ f = 1 ∨ f = 2 ∨ f = 3 ∨ f = 4 ∨ f = 5 ∨ f = 6 ∨ f = 7 by omega) with rfl | rfl | rfl | rfl | rfl | rfl | rfl | rfl
      · exact (Or.inr (Or.inr (Or.inr (Or.inr (Or.inr (Or.inr (Or.inr (Or.inr (Or.inr (Or.inr (Or.inr (Or.inr (Or.inr (Or.inr (Or.inr (Or.inr (Or.inr (Or.inr (Or.inr (Or.inr (Or.inr (Or.inl (Or.inr ⟨k, hk, rfl⟩)))))))))))))))))))))))
      · exact (Or.inr (Or.inr (Or.inr (Or.inr (Or.inr (Or.inr (Or.inr (Or.inr (Or.inr (Or.inr (Or.inr (Or.inr (Or.inr (Or.inr (Or.inr (Or.inr (Or.inr (Or.inr (Or.inr (Or.inr (Or.inl (Or.inr ⟨k, hk, rfl⟩))))))))))))))))))))))
      · exact (Or.inr (Or.inr (Or.inr (Or.inr (Or.inr (Or.inr (Or.inr (Or.inr (Or.inr (Or.inr (Or.inr (Or.inr (Or.inr (Or.inr (Or.inr (Or.inr (Or.inr (Or.inr (Or.inr (Or.inl (Or.inr ⟨k, hk, rfl⟩)))))))))))))))))))))
      · exact (Or.inr (Or.inr (Or.inr (Or.inr (Or.inr (Or.inr (Or.inr (Or.inr (Or.inr (Or.inr (Or.inr (Or.inr (Or.inr (Or.inr (Or.inr (Or.inr (Or.inr (Or.inr (Or.inl (Or.inr ⟨k, hk, rfl⟩))))))))))))))))))))
      · exact (Or.inr (Or.inr (Or.inr (Or.inr (Or.inr (Or.inr (Or.inr (Or.inr (Or.inr (Or.inr (Or.inr (Or.inr (Or.inr (Or.inr (Or.inr (Or.inr (Or.inr (Or.inl (Or.inr (Or.inl ⟨k, hk, rfl⟩))))))))))))))))))))
      · exact (Or.inr (Or.inr (Or.inr (Or.inr (Or.inr (Or.inr (Or.inr (Or.inr (Or.inr (Or.inr (Or.inr (Or.inr (Or.inr (Or.inr (Or.inr (Or.inr (Or.inl (Or.inr (Or.inl ⟨k, hk, rfl⟩)))))))))))))))))))
      · exact (Or.inr (Or.inr (Or.inr (Or.inr (Or.inr (Or.inr (Or.inr (Or.inr (Or.inr (Or.inr (Or.inr (Or.inr (Or.inr (Or.inr (Or.inr (Or.inl (Or.inr (Or.inl ⟨k, hk, rfl⟩))))))))))))))))))
      · exact (Or.inr (Or.inr (Or.inr (Or.inr (Or.inr (Or.inr (Or.inr (Or.inr (Or.inr (Or.inr (Or.inr (Or.inr (Or.inr (Or.inr (Or.inl (Or.inr (Or.inl ⟨k, hk, rfl⟩)))))))))))))))))
    · rcases hf with rfl | rfl | rfl | rfl
      · exact (Or.inr (Or.inr (Or.inr (Or.inr (Or.inr (Or.inr (Or.inr (Or.inr (Or.inr (Or.inr (Or.inl (Or.inr ⟨k, hk, rfl⟩))))))))))))
      · exact (Or.inr (Or.inr (Or.inr (Or.inr (Or.inr (Or.inr (Or.inr (Or.inr (Or.inl (Or.inr ⟨k, hk, rfl⟩))))))))))
      · exact (Or.inr (Or.inr (Or.inr (Or.inr (Or.inr (Or.inr (Or.inr (Or.inl (Or.inr ⟨k, hk, rfl⟩)))))))))
      · exact (Or.inr (Or.inr (Or.inr (Or.inr (Or.inr (Or.inr (Or.inl (Or.inr ⟨k, hk, rfl⟩))))))))
  · rename_i f k j
    obtain ⟨h4, h8, hk, hj⟩ := hi
    rcases (show f = 4 ∨ f = 5 ∨ f = 6 ∨ f = 7 by omega) with rfl | rfl | rfl | rfl
    · exact (Or.inr (Or.inr (Or.inr (Or.inr (Or.inr (Or.inr (Or.inr (Or.inr (Or.inr (Or.inr (Or.inr (Or.inr (Or.inr (Or.inr (Or.inr (Or.inr (Or.inr (Or.inl (Or.inr (Or.inr ⟨k, j, hk, hj, rfl⟩))))))))))))))))))))
    · exact (Or.inr (Or.inr (Or.inr (Or.inr (Or.inr (Or.inr (Or.inr (Or.inr (Or.inr (Or.inr (Or.inr (Or.inr (Or.inr (Or.inr (Or.inr (Or.inr (Or.inl (Or.inr (Or.inr ⟨k, j, hk, hj, rfl⟩)))))))))))))))))))
    · exact (Or.inr (Or.inr (Or.inr (Or.inr (Or.inr (Or.inr (Or.inr (Or.inr (Or.inr (Or.inr (Or.inr (Or.inr (Or.inr (Or.inr (Or.inr (Or.inl (Or.inr (Or.inr ⟨k, j, hk, hj, rfl⟩))))))))))))))))))
    · exact (Or.inr (Or.inr (Or.inr (Or.inr (Or.inr (Or.inr (Or.inr (Or.inr (Or.inr (Or.inr (Or.inr (Or.inr (Or.inr (Or.inr (Or.inl (Or.inr (Or.inr ⟨k, j, hk, hj, rfl⟩)))))))))))))))))
  · rename_i f
    rcases hi with rfl | rfl | rfl | rfl | rfl | rfl | rfl | rfl
    · exact (Or.inr (Or.inr (Or.inr (Or.inr (Or.inr (Or.inr (Or.inr (Or.inr (Or.inr (Or.inr (Or.inr (Or.inr (Or.inr (Or.inl rfl))))))))))))))
    · exact (Or.inr (Or.inr (Or.inr (Or.inr (Or.inr (Or.inr (Or.inr (Or.inr (Or.inr (Or.inr (Or.inr (Or.inr (Or.inl rfl)))))))))))))
    · exact (Or.inr (Or.inr (Or.inr (Or.inr (Or.inr (Or.inr (Or.inr (Or.inr (Or.inr (Or.inr (Or.inr (Or.inl rfl))))))))))))
    · exact (Or.inr (Or.inr (Or.inr (Or.inr (Or.inr (Or.inr (Or.inr (Or.inr (Or.inr (Or.inl rfl))))))))))
    · exact (Or.inr (Or.inr (Or.inr (Or.inr (Or.inr (Or.inl rfl))))))
    · exact (Or.inr (Or.inr (Or.inr (Or.inr (Or.inl rfl)))))
    · exact (Or.inr (Or.inr (Or.inr (Or.inl rfl))))
    · exact (Or.inr (Or.inr (Or.inl rfl)))
  · exact (Or.inr (Or.inl rfl))
  · exact (Or.inl rfl)
  · exact hi.elim
abbrev sFz : xF := upR (upR (upR (upR (sF6 (upR (xFh h00) [0] (fun _ => none))) [20] (fun _ => none)) [20] (xFh h00 [20])) [30] (fun _ => none)) [31] (fun _ => none)
theorem sFz_all (i : List Nat) : xFh h00 i = sFz i := by
  have up1 : ∀ (f : xF) (j : List Nat) (r : Nat → Option (List Nat)), (i = j → xFh h00 j = r) → (i ≠ j → xFh h00 i = f i) → xFh h00 i = upR f j r i := fun f j r h1 h2 => by
    by_cases z : i = j
    · subst z; exact (h1 rfl).trans upR_at.symm
    · exact (h2 z).trans (upR_id z).symm
  refine up1 _ _ _ (fun _ => rfl) (fun _ => ?_)
  refine up1 _ _ _ (fun _ => rfl) (fun _ => ?_)
  refine up1 _ _ _ (fun _ => rfl) (fun a20 => ?_)
  refine up1 _ _ _ (fun z => absurd z a20) (fun _ => ?_)
  refine up1 _ _ _ (fun _ => rfl) (fun _ => ?_)
  refine up1 _ _ _ (fun _ => rfl) (fun _ => ?_)
  refine up1 _ _ _ (fun _ => rfl) (fun _ => ?_)
  refine up1 _ _ _ (fun _ => rfl) (fun _ => ?_)
  refine up1 _ _ _ (fun _ => rfl) (fun _ => ?_)
  refine up1 _ _ _ (fun _ => funext fun k => if_neg (t := some [7, 3, k]) (Nat.not_lt_zero k)) (fun _ => ?_)
  refine up1 _ _ _ (fun _ => by funext k; rcases k with _ | _ | k <;> first | rfl | (simp [xFh, q1])) (fun _ => ?_)
  refine up1 _ _ _ (fun _ => by funext k; rcases k with _ | _ | _ | _ | _ | _ | k <;> first | rfl | (simp [xFh, qM, qK, qJ])) (fun _ => ?_)
  refine up1 _ _ _ (fun _ => rfl) (fun _ => ?_)
  refine up1 _ _ _ (fun _ => rfl) (fun _ => ?_)
  refine up1 _ _ _ (fun _ => rfl) (fun _ => ?_)
  refine up1 _ _ _ (fun _ => rfl) (fun _ => ?_)
  refine up1 _ _ _ (fun _ => by funext k; rcases k with _ | _ | _ | _ | _ | _ | k <;> first | rfl | (simp [xFh, qM, qK, qJ])) (fun _ => ?_)
  refine up1 _ _ _ (fun _ => funext fun k => if_neg (t := some [11, k, 0]) (Nat.not_lt_zero k)) (fun _ => ?_)
  refine up1 _ _ _ (fun _ => funext fun k => if_neg (t := some [5, k]) (Nat.not_lt_zero k)) (fun _ => ?_)
  refine up1 _ _ _ (fun _ => by funext k; rcases k with _ | _ | _ | _ | _ | _ | k <;> first | rfl | (simp [xFh, qM, qK, qJ])) (fun a0 => ?_)
  exact up1 _ _ _ (fun z => absurd z a0) (fun _ => rfl)
section XL
variable {p : Program} {l : Launch} {e : Env} {R : Room} {s : State} {m : MethodId} {args : Array Value} {below : List Frame} {meth : Method} {c : Code} {cells slots : Nat} {Q : State → Prop} {ls : Array Slot} {g0 : xG} {b : Nat}
set_option maxHeartbeats 4000000 in
set_option maxRecDepth 100000 in
theorem t_start (hx : p.tables.exec = Jvm.exec) (hb : c.code = cL_law) (hml : c.maxLocals = 8) (hown : s.vm.findClass "CasebookStepsLaw" = some m.cls) (hE : ∀ a, xE (setG g0 a) s s.heap) (hCs : ∀ a, xCs (setG g0 a) s) (hR : 61 ≤ R.frames ∧ 5000 ≤ R.locals) (hf : 500 ≤ R.cells ∧ 5000 ≤ R.slots) (hA : ∀ q, s.heap.size ≤ q → gA g0 q) (hl : lv_has ls 8 [(0, .ref b)])
    (kk : ∀ (a : List Nat → Nat) (I : xI) (n : Nat) (H : Heap) (locs : List Loc) (ls : Array Slot) (cells slots : Nat), cells ≤ 500 → slots ≤ 5000 → xR (setG g0 a) (xD h00) I (xFh h00) n H → LW h00 I 0 → va_S (gA g0) s.heap H locs → lv_has ls 8 (lwB b a 0) → W p l e R s m args below meth c H locs cells slots Q (F0 m 28 ls [])) : W p l e R s m args below meth c s.heap [] 0 0 Q (F0 m 0 ls []) := by
  obtain ⟨N, hN⟩ : ∃ N, N = s.heap.size := ⟨_, rfl⟩
  have hE' := hE (aSt N)
  have hK := hE'.1
  have hts := hE'.ts args
  have hS : va_S (gA g0) s.heap s.heap [] := va_S.rf
  have hH : xR (setG g0 (aSt N)) (fun _ => False) (fun _ _ => 0) (xFh h00) N s.heap := ⟨hN.symm, fun _ h => h.elim, fun _ _ h => h.elim, fun _ h => h.elim, fun q h => hA q (by omega)⟩
  refine x_new (g := setG g0 (aSt N)) (own := "CasebookStepsLaw") (C := RX6) (T := TX6) (N := 6) (ci := 6) hx hb hts iu6 tyX6 tyX6_ok hown (hts _ tw17) (hts _ tw18) (hts _ tw1) hK hH hS [0] (fun z => z) rfl rfl (by decide) rfl (df6 _) (by omega) (by omega) dL_law_0 (fun H hH hS => ?_)
  refine lv_dup hx hb dL_law_3 rfl ?_
  refine x_I0 hx hb hml hown hE' hS hl.1 cyX6_init tw19 (c_X6_init l (setG g0 (aSt N)) _ _ _ (N + 1) (Or.inl rfl) upR_at upR_at (by simp) rfl (by simp) rfl (by simp) rfl (by simp) rfl (by simp) rfl (by simp) rfl (by simp) rfl (by simp) rfl (by simp) rfl (by simp) rfl (by simp) rfl (by simp) rfl (by simp) rfl (by simp) rfl (by simp) rfl) ⟨by omega, by omega⟩ ⟨by omega, by omega⟩ hH rfl rfl (Nat.le_of_ble_eq_true rfl) dL_law_4 (fun H locs hH hS => ?_)
  refine lv_astore_n (lv' := [(1, .ref N), (0, .ref b)]) hx hb dL_law_7 rfl hl (by decide) rfl (fun ls hl => ?_)
  refine x_new (g := setG g0 (aSt N)) (own := "CasebookStepsLaw") (C := RX7) (T := TX7) (N := 24) (ci := 7) hx hb hts iu7 tyX7 tyX7_ok hown (hts _ tw823) (hts _ tw824) (hts _ tw5) hK hH hS [20] (by simp) rfl rfl (by decide) rfl (df7 _) (by omega) (by omega) dL_law_8 (fun H hH hS => ?_)
  refine lv_dup hx hb dL_law_11 rfl ?_
  refine x_I0C hx hb hml hown hE' (hCs (aSt N)) hS hl.1 cyX7_init tw825 (c_X7_init l (setG g0 (aSt N)) h00 _ _ _ (N + 17) (Or.inl rfl) upR_at upR_at (fun id hi => by unfold mIz at hi; split at hi <;> first | (simp [upR_ap]; done) | (cases hi; done) | (funext q; simp [upR_ap]; done)) (fun id hi => by unfold mIz at hi; split at hi <;> first | (simp [upR_ap]; done) | (cases hi; done) | (funext q; simp [upR_ap]; done)) (fun id hi => by unfold mIz at hi; split at hi <;> first | (simp; done) | (cases hi; done)) rfl (fun _ _ => rfl) rfl (fun _ _ => rfl) rfl (fun _ _ => rfl) rfl (fun _ _ => rfl) rfl (fun _ _ => rfl) (fun _ _ _ _ => rfl) rfl (fun _ _ => rfl) (fun _ _ _ _ => rfl) rfl (fun _ _ => rfl) (fun _ _ _ _ => rfl) rfl (fun _ _ => rfl) (fun _ _ _ _ => rfl) rfl rfl rfl rfl (fun _ _ => rfl) rfl rfl (fun _ _ => rfl) rfl (fun _ _ => rfl) rfl (fun _ _ => rfl) rfl rfl rfl rfl) ⟨by omega, by omega⟩ ⟨by omega, by omega⟩ hH rfl rfl (Nat.le_of_ble_eq_true rfl) dL_law_12 (fun H locs hH hS => ?_)
  refine lv_astore_n (lv' := [(2, .ref (N + 16)), (1, .ref N), (0, .ref b)]) hx hb dL_law_15 rfl hl (by decide) rfl (fun ls hl => ?_)
  refine lv_iconst (v := 1) hx hb dL_law_16 (by decide) ?_
  refine x_newaW (g := setG g0 (aSt N)) (atype := .long) hx hb (hts _ tw1146) 12 (Or.inl rfl) rfl hK hH hS [30] (by simp) rfl rfl (L := 1) rfl (by omega) (by omega) (by omega) dL_law_17 (fun H hH hS => ?_)
  refine lv_astore_n (lv' := [(3, .ref (N + 173)), (2, .ref (N + 16)), (1, .ref N), (0, .ref b)]) hx hb dL_law_19 rfl hl (by decide) rfl (fun ls hl => ?_)
  refine lv_iconst (v := 1) hx hb dL_law_20 (by decide) ?_
  refine x_newaW (g := setG g0 (aSt N)) (atype := .double) hx hb (hts _ tw1147) 13 (Or.inr rfl) rfl hK hH hS [31] (by simp) rfl rfl (L := 1) rfl (by omega) (by omega) (by omega) dL_law_21 (fun H hH hS => ?_)
  refine lv_astore (lv' := [(4, .ref (N + 174)), (3, .ref (N + 173)), (2, .ref (N + 16)), (1, .ref N), (0, .ref b)]) hx hb dL_law_23 hl (by decide) rfl (fun ls hl => ?_)
  refine lv_iconst (v := 0) hx hb dL_law_25 (by decide) ?_
  refine lv_istore (lv' := [(5, .int 0), (4, .ref (N + 174)), (3, .ref (N + 173)), (2, .ref (N + 16)), (1, .ref N), (0, .ref b)]) hx hb dL_law_26 hl (by decide) rfl (fun ls hl => ?_)
  refine kk (aSt N) _ _ H locs ls _ _ (by omega) (by omega) (hH.congr (g' := setG g0 (aSt N)) (fun i hi => ?_) (fun _ _ => rfl) (fun i hi => ?_)) (LW0 ?_ (fun id a1 a2 a3 => ?_)) hS (lv_sub hl [5, 4, 3, 2, 1, 0] rfl)
  · exact sDz_all i hi
  · exact sFz_all i
  · rw [upR_id (by simp), upR_id (by simp), upR_at]
  · funext q
    have up0 : ∀ (f : xI) (i : List Nat) (r : Nat → Int32), f id q = 0 → (id = i → r q = 0) → upR f i r id q = 0 := fun f i r h1 h2 => by
      rw [upR_ap]
      split
      · rename_i z; exact h2 z
      · exact h1
    repeat (refine up0 _ _ _ ?_ (fun z => by first | exact absurd z a1 | exact absurd z a2 | exact absurd z a3 | rfl))
    rfl
end XL
