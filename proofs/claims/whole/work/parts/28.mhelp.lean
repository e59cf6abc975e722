/-! CONTRACTS: the model, what is asked of arguments -/
def mIn (v lo hi : Int32) : Bool := decide (lo ≤ v) && decide (v ≤ hi)
theorem mIn_sIn {x : Int32} {q : Nat} (hq : q ≤ 100) : mIn x 0 (nI q - 1) = sIn x 0 (nI q) := by
  unfold mIn sIn
  have e : (nI q - 1).toInt = (q : Int) - 1 := by
    rw [Int32.toInt_sub, nI_toInt (by omega)]
    have : (1 : Int32).toInt = 1 := by decide
    rw [this, Int.bmod_eq_of_le (by omega) (by omega)]
  have e2 : (nI q).toInt = (q : Int) := nI_toInt (by omega)
  have a : decide (0 ≤ x) = !decide (x < 0) := by
    by_cases h : x < 0
    · rw [decide_eq_true h, decide_eq_false (fun z => absurd h (Int32.not_lt.mpr z))]; rfl
    · rw [decide_eq_false h, decide_eq_true (Int32.not_lt.mp h)]; rfl
  have b : decide (x ≤ nI q - 1) = !decide (nI q ≤ x) := by
    by_cases h : nI q ≤ x
    · rw [decide_eq_true h, decide_eq_false (fun z => by rw [Int32.le_iff_toInt_le] at h z; omega)]; rfl
    · rw [decide_eq_false h, decide_eq_true (by rw [Int32.le_iff_toInt_le] at h ⊢; omega)]; rfl
  rw [a, b]