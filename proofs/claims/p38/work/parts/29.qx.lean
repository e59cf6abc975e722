/-! WHAT A CASE'S NUMBERS MAY BE -/
theorem u2_ne {α : Type} (X : Nat → Nat → α) {f k a b : Nat} (v : α) (h : ¬ (a = f ∧ b = k)) : up2 X f k v a b = X a b := if_neg h
theorem i_inc {x : Int32} {b : Int} (h0 : 0 ≤ x.toInt) (hb : x.toInt ≤ b) (hB : b < 2 ^ 31 - 1) : 0 ≤ (x + 1).toInt ∧ (x + 1).toInt = x.toInt + 1 := by
  rw [Int32.toInt_add, show (1 : Int32).toInt = 1 from by decide, Int.bmod_eq_of_le (by omega) (by omega)]
  omega
/-- states, and how often they were entered -/
def uS_ (m : Nat) (X : xX) : Prop := ∀ k : Nat, k < 8 → (X 2 k = 105 ∨ X 2 k = 97 ∨ X 2 k = 99 ∨ X 2 k = 120) ∧ (X 2 k = 97 ∨ X 2 k = 99 → 1 ≤ (X 5 k).toInt) ∧ 0 ≤ (X 5 k).toInt ∧ (X 5 k).toInt ≤ (m : Int)
theorem uS_.mono {m m' : Nat} {X : xX} (h : uS_ m X) (hm : m ≤ m') : uS_ m' X := fun k hk => by
  obtain ⟨a, b, c, d⟩ := h k hk
  exact ⟨a, b, c, by omega⟩
theorem uS_.congr {m : Nat} {X Y : xX} (h : uS_ m X) (e2 : Y 2 = X 2) (e5 : Y 5 = X 5) : uS_ m Y := fun k hk => by
  rw [e2, e5]; exact h k hk
theorem sFins_or (P : Nat → Nat → Int32) (i0 : Nat) (s : (Nat → Int32) × (Nat → Bool)) (k : Nat) : ∀ d, (sFins P i0 d s).1 k = 120 ∨ (sFins P i0 d s).1 k = s.1 k
  | 0 => Or.inr rfl
  | d + 1 => by
    have ih := sFins_or P i0 s k d
    show (sFin P (i0 + d) (sFins P i0 d s)).1 k = 120 ∨ (sFin P (i0 + d) (sFins P i0 d s)).1 k = s.1 k
    unfold sFin
    split
    · show (if k = i0 + d then (120 : Int32) else (sFins P i0 d s).1 k) = 120 ∨ (if k = i0 + d then (120 : Int32) else (sFins P i0 d s).1 k) = s.1 k
      by_cases e : k = i0 + d
      · rw [if_pos e]; exact Or.inl rfl
      · rw [if_neg e]; exact ih
    · exact ih
theorem sFins_99 (P : Nat → Nat → Int32) (i0 : Nat) (s : (Nat → Int32) × (Nat → Bool)) (k : Nat) (h : s.1 k = 99) : ∀ d, (sFins P i0 d s).1 k = 99
  | 0 => h
  | d + 1 => by
    have ih := sFins_99 P i0 s k h d
    show (sFin P (i0 + d) (sFins P i0 d s)).1 k = 99
    unfold sFin
    split
    · rename_i z
      show (if k = i0 + d then (120 : Int32) else (sFins P i0 d s).1 k) = 99
      by_cases e : k = i0 + d
      · subst e
        rw [ih] at z
        exact z.2.2.elim (fun q => absurd q (by decide)) (fun q => absurd q (by decide))
      · rw [if_neg e]; exact ih
    · exact ih
theorem sEnd_2 (P : Nat → Nat → Int32) (n : Nat) (X : xX) (j : Nat) (v : Int32) (k : Nat) : sEnd P n X j v 2 k = 120 ∨ sEnd P n X j v 2 k = if k = j then v else X 2 k := sFins_or P (j + 1) (fun k => if k = j then v else X 2 k, fun k => decide (k = j)) k (n - (j + 1))
theorem sEnd_99 (P : Nat → Nat → Int32) (n : Nat) (X : xX) (j : Nat) (v : Int32) (k : Nat) (h : (if k = j then v else X 2 k) = 99) : sEnd P n X j v 2 k = 99 := sFins_99 P (j + 1) (fun k => if k = j then v else X 2 k, fun k => decide (k = j)) k h (n - (j + 1))
theorem sEnd_5 (P : Nat → Nat → Int32) (n : Nat) (X : xX) (j : Nat) (v : Int32) : sEnd P n X j v 5 = X 5 := if_neg (by decide)
/-- what was active may be completed or ended -/
theorem uS_.fin {m : Nat} {X : xX} (h : uS_ m X) (P : Nat → Nat → Int32) (n j : Nat) {v : Int32} (hv : v = 99 ∧ X 2 j = 97 ∨ v = 120) : uS_ m (sEnd P n X j v) := fun k hk => by
  obtain ⟨a, b, c, d⟩ := h k hk
  rw [sEnd_5]
  rcases sEnd_2 P n X j v k with z | z
  · rw [z]
    exact ⟨Or.inr (Or.inr (Or.inr rfl)), fun q => q.elim (fun q => absurd q (by decide)) (fun q => absurd q (by decide)), c, d⟩
  · rw [z]
    by_cases e : k = j
    · rw [if_pos e]
      rcases hv with ⟨rfl, hj⟩ | rfl
      · exact ⟨Or.inr (Or.inr (Or.inl rfl)), fun _ => b (Or.inl (by rw [e]; exact hj)), c, d⟩
      · exact ⟨Or.inr (Or.inr (Or.inr rfl)), fun q => q.elim (fun q => absurd q (by decide)) (fun q => absurd q (by decide)), c, d⟩
    · rw [if_neg e]; exact ⟨a, b, c, d⟩
theorem uS_.rul {m : Nat} {X : xX} (h : uS_ m X) (hm : m < 2 ^ 30) (P : Nat → Nat → Int32) (C : Nat → Nat → Nat → Nat → Int32) (cn : Nat → Nat → Nat) (n j : Nat) : uS_ (m + 1) (sRul P C cn n X j).2 := by
  unfold sRul
  split
  · exact (h.fin P n j (Or.inr rfl)).mono (Nat.le_succ m)
  · split
    · intro k hk
      obtain ⟨a, b, c, d⟩ := h k hk
      show (up2 (up2 X 2 j (if P j 0 = 109 then 99 else 97)) 5 j (X 5 j + 1) 2 k = 105 ∨ up2 (up2 X 2 j (if P j 0 = 109 then 99 else 97)) 5 j (X 5 j + 1) 2 k = 97 ∨ up2 (up2 X 2 j (if P j 0 = 109 then 99 else 97)) 5 j (X 5 j + 1) 2 k = 99 ∨ up2 (up2 X 2 j (if P j 0 = 109 then 99 else 97)) 5 j (X 5 j + 1) 2 k = 120) ∧ (up2 (up2 X 2 j (if P j 0 = 109 then 99 else 97)) 5 j (X 5 j + 1) 2 k = 97 ∨ up2 (up2 X 2 j (if P j 0 = 109 then 99 else 97)) 5 j (X 5 j + 1) 2 k = 99 → 1 ≤ (up2 (up2 X 2 j (if P j 0 = 109 then 99 else 97)) 5 j (X 5 j + 1) 5 k).toInt) ∧ 0 ≤ (up2 (up2 X 2 j (if P j 0 = 109 then 99 else 97)) 5 j (X 5 j + 1) 5 k).toInt ∧ (up2 (up2 X 2 j (if P j 0 = 109 then 99 else 97)) 5 j (X 5 j + 1) 5 k).toInt ≤ ((m + 1 : Nat) : Int)
      rw [u2_ne _ _ (show ¬ (2 = 5 ∧ k = j) by omega)]
      by_cases e : k = j
      · subst e
        rw [up2_at, up2_at]
        obtain ⟨i1, i2⟩ := i_inc c d (by omega)
        rw [i2]
        refine ⟨?_, fun _ => by omega, by omega, by omega⟩
        by_cases q : P k 0 = 109
        · rw [if_pos q]; exact Or.inr (Or.inr (Or.inl rfl))
        · rw [if_neg q]; exact Or.inr (Or.inl rfl)
      · rw [u2_ne _ _ (show ¬ (2 = 2 ∧ k = j) by omega), u2_ne _ _ (show ¬ (5 = 5 ∧ k = j) by omega), u2_ne _ _ (show ¬ (5 = 2 ∧ k = j) by omega)]
        exact ⟨a, b, c, by omega⟩
    · split
      · rename_i z
        exact (h.fin P n j (Or.inl ⟨rfl, z.1⟩)).mono (Nat.le_succ m)
      · split
        · intro k hk
          obtain ⟨a, b, c, d⟩ := h k hk
          show (up2 X 2 j 105 2 k = 105 ∨ up2 X 2 j 105 2 k = 97 ∨ up2 X 2 j 105 2 k = 99 ∨ up2 X 2 j 105 2 k = 120) ∧ (up2 X 2 j 105 2 k = 97 ∨ up2 X 2 j 105 2 k = 99 → 1 ≤ (up2 X 2 j 105 5 k).toInt) ∧ 0 ≤ (up2 X 2 j 105 5 k).toInt ∧ (up2 X 2 j 105 5 k).toInt ≤ ((m + 1 : Nat) : Int)
          rw [u2_ne (a := 5) _ _ (show ¬ (5 = 2 ∧ k = j) by omega)]
          by_cases e : k = j
          · subst e
            rw [up2_at]
            exact ⟨Or.inl rfl, fun q => q.elim (fun q => absurd q (by decide)) (fun q => absurd q (by decide)), c, by omega⟩
          · rw [u2_ne _ _ (show ¬ (2 = 2 ∧ k = j) by omega)]
            exact ⟨a, b, c, by omega⟩
        · exact h.mono (Nat.le_succ m)
theorem uS_.swp {m : Nat} {X : xX} (h : uS_ m X) (P : Nat → Nat → Int32) (C : Nat → Nat → Nat → Nat → Int32) (cn : Nat → Nat → Nat) (n : Nat) : ∀ i, m + i < 2 ^ 30 → uS_ (m + i) (sSwp P C cn n i X).2
  | 0, _ => h
  | i + 1, hm => (uS_.swp h P C cn n i (by omega)).rul (by omega) P C cn n i
theorem sRul_f (P : Nat → Nat → Int32) (C : Nat → Nat → Nat → Nat → Int32) (cn : Nat → Nat → Nat) (n : Nat) (X : xX) (j : Nat) {f : Nat} (h2 : f ≠ 2) (h5 : f ≠ 5) : (sRul P C cn n X j).2 f = X f := by
  have e : ∀ v, sEnd P n X j v f = X f := fun v => if_neg h2
  unfold sRul
  split
  · exact e _
  · split
    · show up2 (up2 X 2 j (if P j 0 = 109 then 99 else 97)) 5 j (X 5 j + 1) f = X f
      rw [up2_f _ _ _ h5, up2_f _ _ _ h2]
    · split
      · exact e _
      · split
        · exact up2_f _ _ _ h2
        · rfl
theorem sSwp_f (P : Nat → Nat → Int32) (C : Nat → Nat → Nat → Nat → Int32) (cn : Nat → Nat → Nat) (n : Nat) (X : xX) {f : Nat} (h2 : f ≠ 2) (h5 : f ≠ 5) : ∀ i, (sSwp P C cn n i X).2 f = X f
  | 0 => rfl
  | i + 1 => (sRul_f P C cn n _ i h2 h5).trans (sSwp_f P C cn n X h2 h5 i)
theorem sRnd_fk (P : Nat → Nat → Int32) (C : Nat → Nat → Nat → Nat → Int32) (cn : Nat → Nat → Nat) (n : Nat) {f k : Nat} (h2 : f ≠ 2) (h5 : f ≠ 5) (h9 : ¬ (f = 0 ∧ k = 9)) : ∀ (t r : Nat) (X : xX), sRnd P C cn n t r X f k = X f k
  | 0, _, _ => rfl
  | t + 1, r, X => by
    have e : (sSwp P C cn n n X).2 f k = X f k := congrFun (sSwp_f P C cn n X h2 h5 n) k
    show (if (sSwp P C cn n n X).1 = true then sRnd P C cn n t (r + 1) (up2 (sSwp P C cn n n X).2 0 9 (nI (r + 1))) else (sSwp P C cn n n X).2) f k = X f k
    split
    · rw [sRnd_fk P C cn n h2 h5 h9]
      unfold up2
      rw [if_neg h9]; exact e
    · exact e
theorem sTail_fk (P : Nat → Nat → Int32) (C : Nat → Nat → Nat → Nat → Int32) (cn : Nat → Nat → Nat) (n : Nat) (X : xX) {f k : Nat} (h2 : f ≠ 2) (h5 : f ≠ 5) (h8 : ¬ (f = 0 ∧ k = 8)) (h9 : ¬ (f = 0 ∧ k = 9)) (h10 : ¬ (f = 0 ∧ k = 10)) : sTail P C cn n X f k = X f k := by
  unfold sTail sRun
  have a : ∀ (Z : xX) v, up2 Z 0 8 v f k = Z f k := fun Z v => if_neg h8
  have b : ∀ (Z : xX) v, up2 Z 0 9 v f k = Z f k := fun Z v => if_neg h9
  have c : ∀ (Z : xX) v, up2 Z 0 10 v f k = Z f k := fun Z v => if_neg h10
  rw [a, sRnd_fk P C cn n h2 h5 h9, b, c]
theorem sTail_4 (P : Nat → Nat → Int32) (C : Nat → Nat → Nat → Nat → Int32) (cn : Nat → Nat → Nat) (n : Nat) (X : xX) (k : Nat) : sTail P C cn n X 4 k = X 4 k := sTail_fk P C cn n X (by decide) (by decide) (by omega) (by omega) (by omega)
theorem sTail_7 (P : Nat → Nat → Int32) (C : Nat → Nat → Nat → Nat → Int32) (cn : Nat → Nat → Nat) (n : Nat) (X : xX) : sTail P C cn n X 0 7 = X 0 7 := sTail_fk P C cn n X (by decide) (by decide) (by omega) (by omega) (by omega)
theorem sTail_6 (P : Nat → Nat → Int32) (C : Nat → Nat → Nat → Nat → Int32) (cn : Nat → Nat → Nat) (n : Nat) (X : xX) : sTail P C cn n X 0 6 = X 0 6 := sTail_fk P C cn n X (by decide) (by decide) (by omega) (by omega) (by omega)
theorem sTail_1 (P : Nat → Nat → Int32) (C : Nat → Nat → Nat → Nat → Int32) (cn : Nat → Nat → Nat) (n : Nat) (X : xX) (k : Nat) : sTail P C cn n X 1 k = X 1 k := sTail_fk P C cn n X (by decide) (by decide) (by omega) (by omega) (by omega)
theorem sTail_10 (P : Nat → Nat → Int32) (C : Nat → Nat → Nat → Nat → Int32) (cn : Nat → Nat → Nat) (n : Nat) (X : xX) : sTail P C cn n X 0 10 = X 0 10 + 1 := by
  unfold sTail sRun
  rw [u2_ne _ _ (by omega), sRnd_fk P C cn n (by decide) (by decide) (by omega), u2_ne _ _ (by omega), up2_at]
theorem sRnd_9 (P : Nat → Nat → Int32) (C : Nat → Nat → Nat → Nat → Int32) (cn : Nat → Nat → Nat) (n : Nat) : ∀ (t r : Nat) (X : xX), X 0 9 = nI r → ∃ r', r' ≤ r + t ∧ sRnd P C cn n t r X 0 9 = nI r'
  | 0, r, _, h => ⟨r, Nat.le_refl _, h⟩
  | t + 1, r, X, h => by
    show ∃ r', r' ≤ r + (t + 1) ∧ (if (sSwp P C cn n n X).1 = true then sRnd P C cn n t (r + 1) (up2 (sSwp P C cn n n X).2 0 9 (nI (r + 1))) else (sSwp P C cn n n X).2) 0 9 = nI r'
    split
    · obtain ⟨r', h1, h2⟩ := sRnd_9 P C cn n t (r + 1) (up2 (sSwp P C cn n n X).2 0 9 (nI (r + 1))) (up2_at _ _ _ _)
      exact ⟨r', by omega, h2⟩
    · exact ⟨r, by omega, (congrFun (sSwp_f P C cn n X (by decide) (by decide) n) 9).trans h⟩
theorem sTail_9 (P : Nat → Nat → Int32) (C : Nat → Nat → Nat → Nat → Int32) (cn : Nat → Nat → Nat) (n : Nat) (X : xX) : ∃ r : Nat, r ≤ 20 ∧ sTail P C cn n X 0 9 = nI r := by
  unfold sTail sRun
  rw [u2_ne _ _ (by omega)]
  obtain ⟨r, h1, h2⟩ := sRnd_9 P C cn n 20 0 (up2 (up2 X 0 10 (X 0 10 + 1)) 0 9 0) (up2_at _ _ _ _)
  exact ⟨r, by omega, h2⟩
theorem uS_.rnd (P : Nat → Nat → Int32) (C : Nat → Nat → Nat → Nat → Int32) (cn : Nat → Nat → Nat) {n : Nat} (hn : n ≤ 8) : ∀ (t r m : Nat) (X : xX), uS_ m X → m + 8 * t < 2 ^ 30 → uS_ (m + 8 * t) (sRnd P C cn n t r X)
  | 0, _, _, _, h, _ => h
  | t + 1, r, m, X, h, hm => by
    have q := (h.swp P C cn n n (by omega)).mono (show m + n ≤ m + 8 by omega)
    show uS_ (m + 8 * (t + 1)) (if (sSwp P C cn n n X).1 = true then sRnd P C cn n t (r + 1) (up2 (sSwp P C cn n n X).2 0 9 (nI (r + 1))) else (sSwp P C cn n n X).2)
    split
    · have w := uS_.rnd P C cn hn t (r + 1) (m + 8) (up2 (sSwp P C cn n n X).2 0 9 (nI (r + 1))) (q.congr (up2_f _ _ _ (by decide)) (up2_f _ _ _ (by decide))) (by omega)
      exact w.mono (by omega)
    · exact q.mono (by omega)
theorem uS_.tail {m : Nat} {X : xX} (h : uS_ m X) (P : Nat → Nat → Int32) (C : Nat → Nat → Nat → Nat → Int32) (cn : Nat → Nat → Nat) {n : Nat} (hn : n ≤ 8) (hm : m < 2 ^ 29) : uS_ (m + 160) (sTail P C cn n X) := by
  unfold sTail sRun
  refine uS_.congr ?_ (up2_f _ _ _ (by decide)) (up2_f _ _ _ (by decide))
  exact uS_.rnd P C cn hn 20 0 m _ (uS_.congr (uS_.congr h (up2_f _ _ _ (by decide)) (up2_f _ _ _ (by decide))) (up2_f _ _ _ (by decide)) (up2_f _ _ _ (by decide))) (by omega)
/-- a completed task stays completed -/
theorem sRul_99 (P : Nat → Nat → Int32) (C : Nat → Nat → Nat → Nat → Int32) (cn : Nat → Nat → Nat) (n i : Nat) (X : xX) {k : Nat} (hk : P k 0 = 116) (h : X 2 k = 99) : (sRul P C cn n X i).2 2 k = 99 := by
  unfold sRul
  split
  · rename_i z
    have e : k ≠ i := fun e => by rw [← e, h] at z; exact absurd z.1 (by decide)
    exact sEnd_99 P n X i 120 k (by rw [if_neg e]; exact h)
  · split
    · rename_i z
      have e : k ≠ i := fun e => by rw [← e, h] at z; exact absurd z.1 (by decide)
      show up2 (up2 X 2 i (if P i 0 = 109 then 99 else 97)) 5 i (X 5 i + 1) 2 k = 99
      rw [u2_ne _ _ (by omega), u2_ne _ _ (fun q => e q.2)]; exact h
    · split
      · rename_i z
        have e : k ≠ i := fun e => by rw [← e, h] at z; exact absurd z.1 (by decide)
        exact sEnd_99 P n X i 99 k (by rw [if_neg e]; exact h)
      · split
        · rename_i z
          have e : k ≠ i := fun e => by rw [← e, hk] at z; exact absurd z.2.1 (by decide)
          show up2 X 2 i 105 2 k = 99
          rw [u2_ne _ _ (fun q => e q.2)]; exact h
        · exact h
theorem sSwp_99 (P : Nat → Nat → Int32) (C : Nat → Nat → Nat → Nat → Int32) (cn : Nat → Nat → Nat) (n : Nat) (X : xX) {k : Nat} (hk : P k 0 = 116) (h : X 2 k = 99) : ∀ i, (sSwp P C cn n i X).2 2 k = 99
  | 0 => h
  | i + 1 => sRul_99 P C cn n i _ hk (sSwp_99 P C cn n X hk h i)
theorem sRnd_99 (P : Nat → Nat → Int32) (C : Nat → Nat → Nat → Nat → Int32) (cn : Nat → Nat → Nat) (n : Nat) {k : Nat} (hk : P k 0 = 116) : ∀ (t r : Nat) (X : xX), X 2 k = 99 → sRnd P C cn n t r X 2 k = 99
  | 0, _, _, h => h
  | t + 1, r, X, h => by
    have q := sSwp_99 P C cn n X hk h n
    show (if (sSwp P C cn n n X).1 = true then sRnd P C cn n t (r + 1) (up2 (sSwp P C cn n n X).2 0 9 (nI (r + 1))) else (sSwp P C cn n n X).2) 2 k = 99
    split
    · exact sRnd_99 P C cn n hk t (r + 1) _ ((u2_ne _ _ (by omega)).trans q)
    · exact q
theorem sTail_99 (P : Nat → Nat → Int32) (C : Nat → Nat → Nat → Nat → Int32) (cn : Nat → Nat → Nat) (n : Nat) (X : xX) {k : Nat} (hk : P k 0 = 116) (h : X 2 k = 99) : sTail P C cn n X 2 k = 99 := by
  unfold sTail sRun
  rw [u2_ne _ _ (by omega)]
  exact sRnd_99 P C cn n hk 20 0 _ ((u2_ne _ _ (by omega)).trans ((u2_ne _ _ (by omega)).trans h))
/-- a case behind b things at most -/
def uX_ (b : Nat) (X : xX) : Prop := uS_ (160 * b) X ∧ (∃ r : Nat, r ≤ 20 ∧ X 0 9 = nI r) ∧ (0 ≤ (X 0 6).toInt ∧ (X 0 6).toInt < (X 0 10).toInt ∧ (X 0 10).toInt ≤ (b : Int)) ∧ ∀ k : Nat, k < 4 → -99 ≤ (X 1 k).toInt ∧ (X 1 k).toInt ≤ 99
theorem uX_.mono {b b' : Nat} {X : xX} (h : uX_ b X) (hb : b ≤ b') : uX_ b' X := by
  obtain ⟨h1, h2, h3, h4⟩ := h
  exact ⟨h1.mono (by omega), h2, ⟨h3.1, h3.2.1, by omega⟩, h4⟩
theorem uX_.tail {b : Nat} {X : xX} (hs : uS_ (160 * b) X) (h6 : 0 ≤ (X 0 6).toInt ∧ (X 0 6).toInt ≤ (X 0 10).toInt ∧ (X 0 10).toInt ≤ (b : Int)) (h1 : ∀ k : Nat, k < 4 → -99 ≤ (X 1 k).toInt ∧ (X 1 k).toInt ≤ 99) (hb : b < 2 ^ 20) (P : Nat → Nat → Int32) (C : Nat → Nat → Nat → Nat → Int32) (cn : Nat → Nat → Nat) {n : Nat} (hn : n ≤ 8) : uX_ (b + 1) (sTail P C cn n X) := by
  obtain ⟨a, c⟩ := i_inc (x := X 0 10) (by omega) h6.2.2 (by omega)
  refine ⟨(hs.tail P C cn hn (by omega)).mono (by omega), sTail_9 P C cn n X, ?_, fun k hk => by rw [sTail_1]; exact h1 k hk⟩
  rw [sTail_6, sTail_10, c]
  omega
theorem uX_.q3 {b : Nat} {X : xX} (h : uX_ b X) (r : Nat → Int32) : uX_ b (rq3 X r) := h
theorem sVl_of {y : Int32} (h : sVl y = true) : -99 ≤ y.toInt ∧ y.toInt ≤ 99 := by
  unfold sVl at h
  rw [Bool.and_eq_true] at h
  have h1 : ¬ y < -99 := by simpa using h.1
  have h2 : ¬ 99 < y := by simpa using h.2
  rw [Int32.lt_iff_toInt_lt, show (-99 : Int32).toInt = -99 from by decide] at h1
  rw [Int32.lt_iff_toInt_lt, show (99 : Int32).toInt = 99 from by decide] at h2
  omega
theorem uX_.set {b : Nat} {X : xX} (h : uX_ b X) (hb : b < 2 ^ 20) {y : Int32} (hy : sVl y = true) (j : Nat) (P : Nat → Nat → Int32) (C : Nat → Nat → Nat → Nat → Int32) (cn : Nat → Nat → Nat) {n : Nat} (hn : n ≤ 8) : uX_ (b + 1) (sTail P C cn n (up2 X 1 j y)) := by
  obtain ⟨h1, h2, h3, h4⟩ := h
  refine uX_.tail (h1.congr (up2_f _ _ _ (by decide)) (up2_f _ _ _ (by decide))) ?_ (fun k hk => ?_) hb P C cn hn
  · rw [up2_f _ _ _ (by decide)]; omega
  · by_cases e : k = j
    · subst e; rw [up2_at]; exact sVl_of hy
    · rw [u2_ne _ _ (fun z => e z.2)]; exact h4 k hk
theorem uX_.fld {b : Nat} {X : xX} (h : uX_ b X) (hb : b < 2 ^ 20) {j : Nat} (hj : j = 7 ∨ j = 8) (y : Int32) (P : Nat → Nat → Int32) (C : Nat → Nat → Nat → Nat → Int32) (cn : Nat → Nat → Nat) {n : Nat} (hn : n ≤ 8) : uX_ (b + 1) (sTail P C cn n (up2 X 0 j y)) := by
  obtain ⟨h1, h2, h3, h4⟩ := h
  refine uX_.tail (h1.congr (up2_f _ _ _ (by decide)) (up2_f _ _ _ (by decide))) ?_ (fun k hk => ?_) hb P C cn hn
  · rw [u2_ne _ _ (by omega), u2_ne _ _ (by omega)]; omega
  · rw [up2_f _ _ _ (by decide)]; exact h4 k hk
theorem uX_.fin {b : Nat} {X : xX} (h : uX_ b X) (hb : b < 2 ^ 20) {j : Nat} (hj : X 2 j = 97) (P : Nat → Nat → Int32) (C : Nat → Nat → Nat → Nat → Int32) (cn : Nat → Nat → Nat) {n : Nat} (hn : n ≤ 8) : uX_ (b + 1) (sTail P C cn n (sEnd P n X j 99)) := by
  obtain ⟨h1, h2, h3, h4⟩ := h
  have e : ∀ f, f ≠ 2 → sEnd P n X j 99 f = X f := fun f hf => if_neg hf
  refine uX_.tail (h1.fin P n j (Or.inl ⟨rfl, hj⟩)) ?_ (fun k hk => ?_) hb P C cn hn
  · rw [e 0 (by decide)]; omega
  · rw [e 1 (by decide)]; exact h4 k hk
theorem uX_.same {b : Nat} {X : xX} (h : uX_ b X) (hb : b < 2 ^ 20) (P : Nat → Nat → Int32) (C : Nat → Nat → Nat → Nat → Int32) (cn : Nat → Nat → Nat) {n : Nat} (hn : n ≤ 8) : uX_ (b + 1) (sTail P C cn n X) := by
  obtain ⟨h1, h2, h3, h4⟩ := h
  exact uX_.tail h1 (by omega) h4 hb P C cn hn
theorem sOld_6 (P : Nat → Nat → Int32) (n : Nat) (X : xX) : sOld P n X 0 6 = X 0 6 + 1 := by
  unfold sOld
  split
  · unfold sOldT; rw [if_neg (by omega)]; exact up2_at _ _ _ _
  · exact up2_at _ _ _ _
theorem sOld_ne (P : Nat → Nat → Int32) (n : Nat) (X : xX) {f k : Nat} (h4 : f ≠ 4) (h6 : ¬ (f = 0 ∧ k = 6)) : sOld P n X f k = X f k := by
  unfold sOld
  split
  · unfold sOldT; rw [if_neg (fun z => h4 z.1)]; exact u2_ne _ _ h6
  · exact u2_ne _ _ h6
theorem uX_.old {b : Nat} {X : xX} (h : uX_ b X) (hb : b < 2 ^ 20) (P : Nat → Nat → Int32) (C : Nat → Nat → Nat → Nat → Int32) (cn : Nat → Nat → Nat) {n : Nat} (hn : n ≤ 8) : uX_ (b + 1) (sTail P C cn n (sOld P n X)) := by
  obtain ⟨h1, h2, h3, h4⟩ := h
  obtain ⟨a, c⟩ := i_inc (x := X 0 6) h3.1 (Int.le_of_lt (Int.lt_of_lt_of_le h3.2.1 h3.2.2)) (by omega)
  refine uX_.tail (h1.congr (funext fun k => sOld_ne P n X (by decide) (by omega)) (funext fun k => sOld_ne P n X (by decide) (by omega))) ?_ (fun k hk => ?_) hb P C cn hn
  · rw [sOld_6, sOld_ne P n X (by decide) (by omega), c]; omega
  · rw [sOld_ne P n X (by decide) (by omega)]; exact h4 k hk
theorem sNew_2 (X : xX) {k : Nat} (hk : k < 8) : sNew X 2 k = 105 := by
  unfold sNew
  rw [up2_f _ _ _ (by decide), up2_f _ _ _ (by decide), up2_f _ _ _ (by decide), up2_f _ _ _ (by decide)]
  unfold sNw2
  rw [if_neg (by omega), if_pos ⟨rfl, hk⟩]
theorem sNew_5 (X : xX) {k : Nat} (hk : k < 8) : sNew X 5 k = 0 := by
  unfold sNew
  rw [up2_f _ _ _ (by decide), up2_f _ _ _ (by decide), up2_f _ _ _ (by decide), up2_f _ _ _ (by decide)]
  unfold sNw2
  rw [if_neg (by omega), if_neg (by omega), if_pos ⟨Or.inr rfl, hk⟩]
theorem sNew_1 (X : xX) {k : Nat} (hk : k < 4) : sNew X 1 k = 0 := by
  unfold sNew
  rw [up2_f _ _ _ (by decide), up2_f _ _ _ (by decide), up2_f _ _ _ (by decide), up2_f _ _ _ (by decide)]
  unfold sNw2
  rw [if_pos ⟨rfl, hk⟩]
theorem sNew_6 (X : xX) : sNew X 0 6 = 0 := by
  unfold sNew
  rw [u2_ne _ _ (by omega), u2_ne _ _ (by omega), u2_ne _ _ (by omega), up2_at]
theorem sNew_10 (X : xX) : sNew X 0 10 = 0 := up2_at _ _ _ _
theorem uX_.new (X : xX) (P : Nat → Nat → Int32) (C : Nat → Nat → Nat → Nat → Int32) (cn : Nat → Nat → Nat) {n : Nat} (hn : n ≤ 8) : uX_ 1 (sTail P C cn n (sNew X)) := by
  refine uX_.tail (b := 0) (fun k hk => ?_) ?_ (fun k hk => ?_) (by decide) P C cn hn
  · rw [sNew_2 X hk, sNew_5 X hk]
    exact ⟨Or.inl rfl, fun q => q.elim (fun q => absurd q (by decide)) (fun q => absurd q (by decide)), by decide, by decide⟩
  · rw [sNew_6, sNew_10]; decide
  · rw [sNew_1 X hk]; decide
theorem uX_.itr {h : xS} {I : xI} {p : Nat} (h8 : sSz h p ≤ 8) {b : Nat} {X : xX} (hX : uX_ b X) : ∀ t : Nat, b + t < 2 ^ 20 → uX_ (b + t) (sItr h I 7 0 0 t (p, X)).2
  | 0, _ => hX
  | t + 1, hb => by
    have ih := uX_.itr h8 hX (I := I) t (by omega)
    have e1 := sItr7_1 h I t (p, X)
    show uX_ (b + t + 1) (sTail (vP I (sItr h I 7 0 0 t (p, X)).1) _ _ _ (sOld (vP I (sItr h I 7 0 0 t (p, X)).1) (sSz h (sItr h I 7 0 0 t (p, X)).1) (sItr h I 7 0 0 t (p, X)).2))
    exact ih.old (by omega) _ _ _ (by rw [e1]; exact h8)
theorem sItr_6 (h : xS) (I : xI) (s : Nat × xX) : ∀ t : Nat, (sItr h I 7 0 0 t s).2 0 6 = s.2 0 6 + nI t
  | 0 => (Int32.add_zero _).symm
  | t + 1 => by
    show sTail _ _ _ _ (sOld _ _ (sItr h I 7 0 0 t s).2) 0 6 = _
    rw [sTail_6, sOld_6, sItr_6 h I s t, Int32.add_assoc]
    exact congrArg (s.2 0 6 + ·) ((nI_add t 1).trans rfl)
