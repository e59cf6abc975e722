/-! OUTCOMES: a case changes -/
/-- ids that no happening of a case writes -/
def kK (id : List Nat) : Bool := match id with
  | [3] => false
  | [4, _] => false
  | [5, _] => false
  | [11, _, _] => false
  | [30] => false
  | _ => true
theorem pL_kK {id : List Nat} (h : pL id = true) (h5 : ∀ p, id ≠ [5, p]) : kK id = true := by
  unfold kK
  split <;> first | rfl | (exfalso; revert h; simp [pL]; done) | exact absurd rfl (h5 _)
theorem mIs_kK {id : List Nat} (h : mIs id = true) : kK id = true := by
  unfold kK
  split <;> first | rfl | (exfalso; revert h; simp [mIs]; done)
theorem kI_no (h : xS) (I : xI) (jn c w : Nat) (x y : Int32) (X : xX) {id : List Nat} (h3 : id ≠ [3]) (h4 : ∀ k, id ≠ [4, k]) (h11 : ∀ f, id ≠ [11, c, f]) : kI h I jn c w x y X id = I id := by
  unfold kI
  rcases sX_cases (sJ I jn (nI c) (nI w) x y) c (sHap h I w x y (sPl h c, X)).2 id with ⟨f, e, -⟩ | ⟨-, e⟩
  · exact absurd e (h11 f)
  · rw [e, sJ_n _ _ _ _ _ _ h3 h4]
theorem kI_kK (h : xS) (I : xI) (jn c w : Nat) (x y : Int32) (X : xX) (o : Int32) (id : List Nat) (hi : kK id = true) : up (kI h I jn c w x y X) [30] 0 o id = I id := by
  rw [up_id (by rintro rfl; cases hi), kI_no _ _ _ _ _ _ _ _ (by rintro rfl; cases hi) (by rintro k rfl; cases hi) (by rintro k rfl; cases hi)]
theorem kI_5 (h : xS) (I : xI) (jn c w : Nat) (x y : Int32) (X : xX) (o : Int32) (p : Nat) : up (kI h I jn c w x y X) [30] 0 o [5, p] = I [5, p] := by
  rw [up_id (by simp), kI_no _ _ _ _ _ _ _ _ (by simp) (by simp) (by simp)]
theorem rq3_rem (X : xX) : ∃ r, sRem X 8 = rq3 X r := ⟨sRem X 8 3, by
  funext f
  unfold rq3
  by_cases e : f = 3
  · rw [if_pos e, e]
  · rw [if_neg e]; funext k; exact if_neg (fun z => e z.1)⟩
theorem u2_ne {α : Type} (X : Nat → Nat → α) {f k a b : Nat} (v : α) (h : ¬ (a = f ∧ b = k)) : up2 X f k v a b = X a b := if_neg h
theorem LW.vk {h : xS} {I J : xI} {jn c : Nat} (hL : LW h I jn) (hc : c < sNc h) (e : ∀ id, kK id = true → J id = I id) (e5 : ∀ p k, k ≠ 3 → J [5, p] k = I [5, p] k) : J [20] 20 = nI (sNc h) ∧ J [20] 10 = nI (sNp h) ∧ J [24, 11] c = nI (sPl h c) ∧ (∀ p, p < sNp h → mA h J p ∧ xWp h J p) ∧ mW J c (gX I c) = J ∧ (∀ p, vP J p = vP I p) ∧ (∀ p, vC J p = vC I p) ∧ J [24, 9] = I [24, 9] := by
  have e7 : ∀ p j, J [7, p, j] = I [7, p, j] := fun p j => e _ rfl
  have e10 : ∀ p j w k, J [10, p, j, w, k] = I [10, p, j, w, k] := fun p j w k => e _ rfl
  have e22 : ∀ a b, J [22, a, b] = I [22, a, b] := fun a b => e _ rfl
  have e23 : ∀ a b d, J [23, a, b, d] = I [23, a, b, d] := fun a b d => e _ rfl
  have e8 : ∀ a b d, J [8, a, b, d] = I [8, a, b, d] := fun a b d => e _ rfl
  have e24 : J [24, 8] = I [24, 8] := e _ rfl
  refine ⟨by rw [e _ rfl]; exact hL.1.2.1.2.1, by rw [e _ rfl]; exact hL.1.1.2.1, by rw [e _ rfl]; exact (hL.1.2.1.2.2.2.1 c hc).2.2.1, fun p hp => ?_, hL.1.view hc (fun id hi => e id (mIs_kK hi)), fun p => funext fun j => e7 p j, fun p => funext fun j => funext fun w => funext fun k => e10 p j w k, e _ rfl⟩
  have hA := (hL.1.1.2.2.1 p hp).1
  have hW := hL.1.1.1.2.2 p hp
  constructor
  · unfold mA mS at *
    simp only [e22, e23, e7, e10, e24]
    exact hA
  · unfold xWp xWs at *
    simp only [e7, e10, e8, e5 p 0 (by decide), e5 p 2 (by decide)]
    exact hW
