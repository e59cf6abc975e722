/-! THE MODEL -/
/-! the model: her rows for a case, as the class's numbers X of it -/
def mW (I : xI) (c : Nat) (X : xX) (id : List Nat) : Nat → Int32 := match id with
  | [22, 12, d] => fun k => if d = c then X 1 k else I [22, 12, d] k
  | [22, 14, d] => fun k => if d = c then X 2 k else I [22, 14, d] k
  | [22, 15, d] => fun k => if d = c then X 4 k else I [22, 15, d] k
  | [22, 16, d] => fun k => if d = c then X 5 k else I [22, 16, d] k
  | [24, 17] => fun k => if k = c then X 0 6 else I [24, 17] k
  | [24, 13] => fun k => if k = c then X 0 7 else I [24, 13] k
  | [24, 18] => fun k => if k = c then X 0 9 else I [24, 18] k
  | [24, 19] => fun k => if k = c then X 0 10 else I [24, 19] k
  | [20] => fun k => if k = 21 then X 0 8 else I [20] k
  | id => I id
def mIs (id : List Nat) : Bool := match id with
  | [22, 12, _] => true
  | [22, 14, _] => true
  | [22, 15, _] => true
  | [22, 16, _] => true
  | [24, 17] => true
  | [24, 13] => true
  | [24, 18] => true
  | [24, 19] => true
  | [20] => true
  | _ => false
theorem mW_r1 (I : xI) (c : Nat) (X : xX) : mW I c X [22, 12, c] = X 1 := by funext k; simp [mW]
theorem mW_r2 (I : xI) (c : Nat) (X : xX) : mW I c X [22, 14, c] = X 2 := by funext k; simp [mW]
theorem mW_r4 (I : xI) (c : Nat) (X : xX) : mW I c X [22, 15, c] = X 4 := by funext k; simp [mW]
theorem mW_r5 (I : xI) (c : Nat) (X : xX) : mW I c X [22, 16, c] = X 5 := by funext k; simp [mW]
theorem mW_c6 (I : xI) (c : Nat) (X : xX) : mW I c X [24, 17] c = X 0 6 := by simp [mW]
theorem mW_c7 (I : xI) (c : Nat) (X : xX) : mW I c X [24, 13] c = X 0 7 := by simp [mW]
theorem mW_c9 (I : xI) (c : Nat) (X : xX) : mW I c X [24, 18] c = X 0 9 := by simp [mW]
theorem mW_c10 (I : xI) (c : Nat) (X : xX) : mW I c X [24, 19] c = X 0 10 := by simp [mW]
theorem mW_c8 (I : xI) (c : Nat) (X : xX) : mW I c X [20] 21 = X 0 8 := by simp [mW]
theorem mW_20 (I : xI) (c : Nat) (X : xX) {k : Nat} (h : k ≠ 21) : mW I c X [20] k = I [20] k := by simp [mW, h]
set_option maxHeartbeats 1000000 in
theorem mW_no (I : xI) (c : Nat) (X : xX) {id : List Nat} (h : mIs id = false) : mW I c X id = I id := by
  unfold mIs at h
  unfold mW
  split at h <;> first | contradiction | rfl | (split <;> first | rfl | (exfalso; simp_all; done))
set_option maxHeartbeats 1000000 in
theorem mW_u1 (I : xI) (c : Nat) (X : xX) (k : Nat) (v : Int32) : up (mW I c X) [22, 12, c] k v = mW I c (up2 X 1 k v) := by
  funext id q
  unfold mW
  split <;> (simp [up, up2]; try grind)
set_option maxHeartbeats 1000000 in
theorem mW_u2 (I : xI) (c : Nat) (X : xX) (k : Nat) (v : Int32) : up (mW I c X) [22, 14, c] k v = mW I c (up2 X 2 k v) := by
  funext id q
  unfold mW
  split <;> (simp [up, up2]; try grind)
set_option maxHeartbeats 1000000 in
theorem mW_u4 (I : xI) (c : Nat) (X : xX) (k : Nat) (v : Int32) : up (mW I c X) [22, 15, c] k v = mW I c (up2 X 4 k v) := by
  funext id q
  unfold mW
  split <;> (simp [up, up2]; try grind)
set_option maxHeartbeats 1000000 in
theorem mW_u5 (I : xI) (c : Nat) (X : xX) (k : Nat) (v : Int32) : up (mW I c X) [22, 16, c] k v = mW I c (up2 X 5 k v) := by
  funext id q
  unfold mW
  split <;> (simp [up, up2]; try grind)
set_option maxHeartbeats 1000000 in
theorem mW_u0_6 (I : xI) (c : Nat) (X : xX) (v : Int32) : up (mW I c X) [24, 17] c v = mW I c (up2 X 0 6 v) := by
  funext id q
  unfold mW
  split <;> (simp [up, up2]; try grind)
set_option maxHeartbeats 1000000 in
theorem mW_u0_7 (I : xI) (c : Nat) (X : xX) (v : Int32) : up (mW I c X) [24, 13] c v = mW I c (up2 X 0 7 v) := by
  funext id q
  unfold mW
  split <;> (simp [up, up2]; try grind)
set_option maxHeartbeats 1000000 in
theorem mW_u0_9 (I : xI) (c : Nat) (X : xX) (v : Int32) : up (mW I c X) [24, 18] c v = mW I c (up2 X 0 9 v) := by
  funext id q
  unfold mW
  split <;> (simp [up, up2]; try grind)
set_option maxHeartbeats 1000000 in
theorem mW_u0_10 (I : xI) (c : Nat) (X : xX) (v : Int32) : up (mW I c X) [24, 19] c v = mW I c (up2 X 0 10 v) := by
  funext id q
  unfold mW
  split <;> (simp [up, up2]; try grind)
set_option maxHeartbeats 1000000 in
theorem mW_u0_8 (I : xI) (c : Nat) (X : xX) (v : Int32) : up (mW I c X) [20] 21 v = mW I c (up2 X 0 8 v) := by
  funext id q
  unfold mW
  split <;> (simp [up, up2]; try grind)
set_option maxHeartbeats 1000000 in
theorem mW_u20 (I : xI) (c : Nat) (X : xX) {k : Nat} (v : Int32) (h : k ≠ 21) : up (mW I c X) [20] k v = mW (up I [20] k v) c X := by
  funext id q
  unfold mW
  split <;> (simp [up]; try grind)
set_option maxHeartbeats 1000000 in
theorem mW_uJ (I : xI) (c : Nat) (X : xX) (i : List Nat) (k : Nat) (v : Int32) (h : mIs i = false) : up (mW I c X) i k v = mW (up I i k v) c X := by
  funext id q
  by_cases e : id = i
  · subst e
    rw [mW_no _ _ _ h]
    simp only [up, mW_no _ _ _ h]
  · rw [up_id e]
    unfold mW
    split <;> (simp [up, Ne.symm e] at *; try grind)
/-- the model's rows of a plan's step, of a plan, as the class's -/
def mS (h : xS) (I : xI) (p j : Nat) : Prop := I [22, 0, p] j = I [7, p, j] 0 ∧ I [22, 1, p] j = I [7, p, j] 1 ∧ (I [7, p, j] 0 = 116 → I [22, 2, p] j = I [7, p, j] 4) ∧ (I [7, p, j] 0 = 109 → I [22, 2, p] j = I [7, p, j] 6) ∧ I [22, 3, p] j = I [7, p, j] 5 ∧
  ∀ w : Nat, w < 2 → I [23, 7, p, j] w = nI (sCn h p j w) ∧ ∀ k : Nat, k < sCn h p j w → I [23, 4, p, j] (3 * w + k) = I [10, p, j, w, k] 0 ∧ I [23, 5, p, j] (3 * w + k) = I [10, p, j, w, k] 1 ∧ I [23, 6, p, j] (3 * w + k) = I [10, p, j, w, k] 2
def mA (h : xS) (I : xI) (p : Nat) : Prop := I [24, 8] p = nI (sSz h p) ∧ ∀ j : Nat, j < sSz h p → mS h I p j
theorem mIx {w : Int32} {v : Nat} (hw : 3 * w = nI (3 * v)) (k : Nat) : 3 * w + nI k = nI (3 * v + k) := by
  rw [hw]; exact nI_add _ _
/-! a stage is over: what is below it -/
def rw2 (X : xX) (S : Nat → Int32) : xX := fun f => if f = 2 then S else X f
def clE (P : Nat → Nat → Int32) (n j : Nat) (S : Nat → Int32) : Nat → Int32 := (sFins P (j + 1) (n - (j + 1)) (S, fun k => decide (k = j))).1
def oN (x : Int32) : Prop := x = 105 ∨ x = 97
abbrev pA (P : Nat → Nat → Int32) (i : Nat) : Nat := (P i 1).toNatClampNeg
def pW (P : Nat → Nat → Int32) (n : Nat) : Prop := ∀ i : Nat, i < n → P i 1 = -1 ∨ ∃ q : Nat, q < i ∧ P i 1 = nI q
def cC (P : Nat → Nat → Int32) (n j k : Nat) (S T : Nat → Int32) (i : Nat) : Prop := i < n ∧ P i 1 ≠ -1 ∧ oN (S i) ∧ ((pA P i = j ∧ i < k) ∨ T (pA P i) ≠ S (pA P i))
/-- the children with numbers below k are over, and what is below them -/
def LI (P : Nat → Nat → Int32) (n j k : Nat) (S T : Nat → Int32) : Prop := ∀ i, (cC P n j k S T i → T i = 120) ∧ (¬ cC P n j k S T i → T i = S i)
theorem oN_120 {x : Int32} (h : oN x) : ¬ x = 120 := by rintro rfl; rcases h with h | h <;> exact absurd h (by decide)
theorem LI_0 (P : Nat → Nat → Int32) (n j : Nat) (S : Nat → Int32) : LI P n j 0 S S := fun i => ⟨fun h => (h.2.2.2.elim (fun z => absurd z.2 (by omega)) (fun z => absurd rfl z)), fun _ => rfl⟩
theorem LI_ch {P : Nat → Nat → Int32} {n j k : Nat} {S T : Nat → Int32} (h : LI P n j k S T) {i : Nat} (hi : T i ≠ S i) : cC P n j k S T i ∧ T i = 120 := by
  by_cases e : cC P n j k S T i
  · exact ⟨e, (h i).1 e⟩
  · exact absurd ((h i).2 e) hi
theorem pW_pA {P : Nat → Nat → Int32} {n i : Nat} (hP : pW P n) (h8 : n ≤ 8) (hi : i < n) (h : P i 1 ≠ -1) : pA P i < i ∧ P i 1 = nI (pA P i) := by
  rcases hP i hi with e | ⟨q, hq, e⟩
  · exact absurd e h
  · have : pA P i = q := by show (P i 1).toNatClampNeg = q; rw [e]; exact nI_clamp (by omega)
    rw [this]; exact ⟨hq, e⟩
theorem pA_of {P : Nat → Nat → Int32} {i j : Nat} (hj : j < 8) (h : P i 1 = nI j) : pA P i = j ∧ P i 1 ≠ -1 := by
  refine ⟨by show (P i 1).toNatClampNeg = j; rw [h]; exact nI_clamp (by omega), ?_⟩
  rw [h]; exact nI_m1 (by omega)
theorem LI_le {P : Nat → Nat → Int32} {n j k : Nat} {S T : Nat → Int32} (hP : pW P n) (h8 : n ≤ 8) (h : LI P n j k S T) : ∀ b i, i ≤ b → i ≤ j → T i = S i := by
  intro b
  induction b with
  | zero =>
    intro i hi hj
    refine (h i).2 (fun z => ?_)
    have := (pW_pA hP h8 z.1 z.2.1).1
    omega
  | succ b ih =>
    intro i hi hj
    refine (h i).2 (fun z => ?_)
    have hl := (pW_pA hP h8 z.1 z.2.1).1
    rcases z.2.2.2 with e | e
    · omega
    · exact e (ih _ (by omega) (by omega))
theorem LI_no {P : Nat → Nat → Int32} {n j k : Nat} {S T : Nat → Int32} (hP : pW P n) (h8 : n ≤ 8) (h : LI P n j k S T) (hj : j < 8) (hn : ¬ (P k 1 = nI j ∧ oN (T k))) : LI P n j (k + 1) S T := by
  intro i
  have hiff : cC P n j (k + 1) S T i ↔ cC P n j k S T i := by
    constructor
    · rintro ⟨a, b, c, d⟩
      refine ⟨a, b, c, d.elim (fun e => ?_) Or.inr⟩
      by_cases q : i = k
      · subst q
        exfalso
        have hp := pW_pA hP h8 a b
        by_cases t : T i = S i
        · exact hn ⟨by rw [hp.2, e.1], by rw [t]; exact c⟩
        · have z := (LI_ch h t).1.2.2.2
          rcases z with z | z
          · omega
          · exact z (LI_le hP h8 h (pA P i) (pA P i) (Nat.le_refl _) (by omega))
      · exact Or.inl ⟨e.1, by omega⟩
    · rintro ⟨a, b, c, d⟩
      exact ⟨a, b, c, d.imp_left (fun e => ⟨e.1, by omega⟩)⟩
  rw [hiff]
  exact h i
theorem LI_yes {P : Nat → Nat → Int32} {n j k : Nat} {S T U : Nat → Int32} (hP : pW P n) (h8 : n ≤ 8) (h : LI P n j k S T) (hj : j < 8) (hk : k < n) (hp : P k 1 = nI j) (ho : oN (T k)) (hU : LI P n k n (fun i => if i = k then 120 else T i) U) : LI P n j (k + 1) S U := by
  obtain ⟨V, hV⟩ : ∃ V : Nat → Int32, V = fun i => if i = k then 120 else T i := ⟨_, rfl⟩
  rw [← hV] at hU
  have Vk : V k = 120 := by rw [hV]; exact if_pos rfl
  have Vn : ∀ q, q ≠ k → V q = T q := fun q hq => by rw [hV]; exact if_neg hq
  have hpk := pA_of hj hp
  have hTk : T k = S k := by
    by_cases t : T k = S k
    · exact t
    · exact absurd (LI_ch h t).2 (oN_120 ho)
  have hUk : U k = 120 := by
    have := LI_le hP h8 hU k k (Nat.le_refl _) (Nat.le_refl _)
    rw [this, Vk]
  have up : ∀ q, T q ≠ S q → U q ≠ S q := by
    intro q hq
    have z := LI_ch h hq
    have e : U q = 120 := by
      by_cases qk : q = k
      · rw [qk]; exact hUk
      · refine ((hU q).2 (fun y => ?_)).trans ?_
        · have := y.2.2.1; rw [Vn _ qk, z.2] at this; exact oN_120 this rfl
        · rw [Vn _ qk]; exact z.2
    rw [e]; exact fun y => oN_120 z.1.2.2.1 y.symm
  intro i
  by_cases ik : i = k
  · subst ik
    exact ⟨fun _ => hUk, fun z => absurd ⟨hk, hpk.2, hTk ▸ ho, Or.inl ⟨hpk.1, by omega⟩⟩ z⟩
  · have hUi := hU i
    rw [Vn _ ik] at hUi
    by_cases ti : T i = S i
    · have hiff : cC P n j (k + 1) S U i ↔ cC P n k n V U i := by
        unfold cC
        rw [Vn _ ik, ti]
        constructor
        · rintro ⟨a, b, c, d⟩
          refine ⟨a, b, c, ?_⟩
          by_cases q : pA P i = k
          · exact Or.inl ⟨q, a⟩
          · refine Or.inr ?_
            rw [Vn _ q]
            rcases d with d | d
            · exfalso
              have z : T i = 120 := (h i).1 ⟨a, b, c, Or.inl ⟨d.1, by omega⟩⟩
              rw [ti] at z; exact oN_120 c z
            · by_cases t : T (pA P i) = S (pA P i)
              · rw [t]; exact d
              · exfalso
                have z : T i = 120 := (h i).1 ⟨a, b, c, Or.inr t⟩
                rw [ti] at z; exact oN_120 c z
        · rintro ⟨a, b, c, d⟩
          refine ⟨a, b, c, Or.inr ?_⟩
          by_cases q : pA P i = k
          · rw [q, hUk]; intro z; exact oN_120 (hTk ▸ ho) z.symm
          · rcases d with d | d
            · exact absurd d.1 q
            · rw [Vn _ q] at d
              by_cases t : T (pA P i) = S (pA P i)
              · rw [← t]; exact d
              · exact up _ t
      rw [hiff, ← ti]
      exact hUi
    · have z := LI_ch h ti
      have e : U i = 120 := (hUi.2 (fun y => by have := y.2.2.1; rw [Vn _ ik, z.2] at this; exact oN_120 this rfl)).trans z.2
      refine ⟨fun _ => e, fun y => absurd ⟨z.1.1, z.1.2.1, z.1.2.2.1, ?_⟩ y⟩
      rcases z.1.2.2.2 with w | w
      · exact Or.inl ⟨w.1, by omega⟩
      · exact Or.inr (up _ w)
theorem LI_self {P : Nat → Nat → Int32} {n k : Nat} {S : Nat → Int32} (h : ∀ i, i < n → P i 1 ≠ -1 → pA P i ≠ k) : LI P n k n S S := fun i =>
  ⟨fun z => z.2.2.2.elim (fun e => absurd e.1 (h i z.1 z.2.1)) (fun e => absurd rfl e), fun _ => rfl⟩
theorem LI_uniq {P : Nat → Nat → Int32} {n j : Nat} {S T U : Nat → Int32} (hP : pW P n) (h8 : n ≤ 8) (h1 : LI P n j n S T) (h2 : LI P n j n S U) : T = U := by
  have : ∀ b i, i ≤ b → T i = U i := by
    intro b
    induction b with
    | zero =>
      intro i hi
      rw [(h1 i).2 (fun z => by have := (pW_pA hP h8 z.1 z.2.1).1; omega), (h2 i).2 (fun z => by have := (pW_pA hP h8 z.1 z.2.1).1; omega)]
    | succ b ih =>
      intro i hi
      have hiff : cC P n j n S T i ↔ cC P n j n S U i := by
        constructor
        · rintro ⟨a, x, c, d⟩
          exact ⟨a, x, c, d.imp_right (fun e => by rw [← ih (pA P i) (by have := (pW_pA hP h8 a x).1; omega)]; exact e)⟩
        · rintro ⟨a, x, c, d⟩
          exact ⟨a, x, c, d.imp_right (fun e => by rw [ih (pA P i) (by have := (pW_pA hP h8 a x).1; omega)]; exact e)⟩
      by_cases e : cC P n j n S T i
      · rw [(h1 i).1 e, (h2 i).1 (hiff.mp e)]
      · rw [(h1 i).2 e, (h2 i).2 (fun y => e (hiff.mpr y))]
  funext i
  exact this i i (Nat.le_refl _)
theorem sFins_LI {P : Nat → Nat → Int32} {n j : Nat} {S : Nat → Int32} (hP : pW P n) (h8 : n ≤ 8) : ∀ d, j + 1 + d ≤ n →
    (∀ i, i ≤ j ∨ j + 1 + d ≤ i → (sFins P (j + 1) d (S, fun k => decide (k = j))).1 i = S i) ∧
    (∀ i, i < j + 1 + d → ((sFins P (j + 1) d (S, fun k => decide (k = j))).2 i = true ↔ i = j ∨ (sFins P (j + 1) d (S, fun k => decide (k = j))).1 i ≠ S i)) ∧
    (∀ i, j < i → i < j + 1 + d → ((P i 1 ≠ -1 ∧ oN (S i) ∧ (pA P i = j ∨ (sFins P (j + 1) d (S, fun k => decide (k = j))).1 (pA P i) ≠ S (pA P i))) → (sFins P (j + 1) d (S, fun k => decide (k = j))).1 i = 120) ∧ (¬ (P i 1 ≠ -1 ∧ oN (S i) ∧ (pA P i = j ∨ (sFins P (j + 1) d (S, fun k => decide (k = j))).1 (pA P i) ≠ S (pA P i))) → (sFins P (j + 1) d (S, fun k => decide (k = j))).1 i = S i)) := by
  intro d
  induction d with
  | zero =>
    intro _
    refine ⟨fun i _ => rfl, fun i hi => ?_, fun i h1 h2 => absurd h1 (by omega)⟩
    show (decide (i = j) = true ↔ i = j ∨ S i ≠ S i)
    constructor
    · intro h; exact Or.inl (of_decide_eq_true h)
    · rintro (h | h)
      · exact decide_eq_true h
      · exact absurd rfl h
  | succ d ih =>
    intro hd
    obtain ⟨h1, h2, h3⟩ := ih (by omega)
    obtain ⟨r, hr⟩ : ∃ r, r = sFins P (j + 1) d (S, fun k => decide (k = j)) := ⟨_, rfl⟩
    rw [← hr] at h1 h2 h3
    obtain ⟨i0, hi0⟩ : ∃ q, q = j + 1 + d := ⟨_, rfl⟩
    have e : sFins P (j + 1) (d + 1) (S, fun k => decide (k = j)) = sFin P i0 r := by rw [hr, hi0]; rfl
    rw [e]
    have r0 : r.1 i0 = S i0 := h1 i0 (Or.inr (by omega))
    have key : ∀ i, i ≠ i0 → (sFin P i0 r).1 i = r.1 i ∧ (sFin P i0 r).2 i = r.2 i := by
      intro i hi
      unfold sFin
      split
      · exact ⟨if_neg hi, if_neg hi⟩
      · exact ⟨rfl, rfl⟩
    have cnd : (P i0 1 ≠ -1 ∧ r.2 (P i0 1).toNatClampNeg = true ∧ (r.1 i0 = 105 ∨ r.1 i0 = 97)) ↔ (P i0 1 ≠ -1 ∧ oN (S i0) ∧ (pA P i0 = j ∨ r.1 (pA P i0) ≠ S (pA P i0))) := by
      rw [r0]
      constructor
      · rintro ⟨a, b, c⟩
        have hl := (pW_pA hP h8 (show i0 < n by omega) a).1
        exact ⟨a, c, (h2 _ (by omega)).mp b⟩
      · rintro ⟨a, c, b⟩
        have hl := (pW_pA hP h8 (show i0 < n by omega) a).1
        exact ⟨a, (h2 (pA P i0) (by omega)).mpr b, c⟩
    refine ⟨fun i hi => ?_, fun i hi => ?_, fun i hj hi => ?_⟩
    · rw [(key i (by omega)).1]
      exact h1 i (by omega)
    · by_cases q : i = i0
      · subst q
        unfold sFin
        split
        · rename_i hc
          have ho := (cnd.mp hc).2.1
          simp only [if_true, true_iff]
          exact Or.inr (fun z => oN_120 ho z.symm)
        · rename_i hc
          have hb : r.2 i = false := by
            have hz : ∀ d', d' ≤ d → (sFins P (j + 1) d' (S, fun k => decide (k = j))).2 i = false := by
              intro d'
              induction d' with
              | zero => intro _; exact decide_eq_false (by omega)
              | succ d' ih2 =>
                intro hd'
                show (sFin P (j + 1 + d') _).2 i = false
                unfold sFin
                split
                · exact (if_neg (by omega)).trans (ih2 (by omega))
                · exact ih2 (by omega)
            rw [hr]; exact hz d (Nat.le_refl _)
          rw [hb]
          constructor
          · intro z; cases z
          · rintro (z | z)
            · omega
            · exact absurd r0 z
      · rw [(key i q).1, (key i q).2]
        exact h2 i (by omega)
    · by_cases q : i = i0
      · subst q
        by_cases hm : P i 1 = -1
        · refine ⟨fun z => absurd hm z.1, fun _ => ?_⟩
          unfold sFin
          rw [if_neg (fun z => z.1 hm)]
          exact r0
        · have hl := (pW_pA hP h8 (show i < n by omega) hm).1
          rw [(key (pA P i) (by omega)).1]
          unfold sFin
          constructor
          · intro z
            rw [if_pos (cnd.mpr z)]
            exact if_pos rfl
          · intro z
            rw [if_neg (fun y => z (cnd.mp y))]
            exact r0
      · rw [(key i q).1]
        by_cases hm : P i 1 = -1
        · exact ⟨fun z => absurd hm z.1, fun _ => (h3 i hj (by omega)).2 (fun z => z.1 hm)⟩
        · have hl := (pW_pA hP h8 (show i < n by omega) hm).1
          rw [(key (pA P i) (by omega)).1]
          exact h3 i hj (by omega)
theorem clE_LI {P : Nat → Nat → Int32} {n j : Nat} (S : Nat → Int32) (hP : pW P n) (h8 : n ≤ 8) (hj : j < n) : LI P n j n S (clE P n j S) := by
  obtain ⟨h1, -, h3⟩ := sFins_LI (j := j) (S := S) hP h8 (n - (j + 1)) (by omega)
  have hn : j + 1 + (n - (j + 1)) = n := by omega
  rw [hn] at h1 h3
  intro i
  show (cC P n j n S (clE P n j S) i → clE P n j S i = 120) ∧ _
  unfold clE at *
  by_cases q : i < n ∧ j < i
  · obtain ⟨a, b⟩ := h3 i q.2 q.1
    refine ⟨fun z => a ⟨z.2.1, z.2.2.1, z.2.2.2.imp_left (fun y => y.1)⟩, fun z => b (fun y => z ⟨q.1, y.1, y.2.1, y.2.2.imp_left (fun w => ⟨w, q.1⟩)⟩)⟩
  · have e := h1 i (by omega)
    refine ⟨fun z => ?_, fun _ => e⟩
    exfalso
    have hl := (pW_pA hP h8 z.1 z.2.1).1
    rcases z.2.2.2 with y | y
    · have := z.1; omega
    · exact y (h1 _ (by have := z.1; omega))
theorem clE_eq {P : Nat → Nat → Int32} {n j : Nat} {S T : Nat → Int32} (hP : pW P n) (h8 : n ≤ 8) (hj : j < n) (h : LI P n j n S T) : T = clE P n j S := LI_uniq hP h8 h (clE_LI S hP h8 hj)
theorem sEnd_cl (P : Nat → Nat → Int32) (n j : Nat) (X : xX) (v : Int32) : sEnd P n X j v = rw2 X (clE P n j (fun k => if k = j then v else X 2 k)) := rfl