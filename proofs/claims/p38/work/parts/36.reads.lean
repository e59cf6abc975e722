/-! READS by the law's own methods -/
theorem bo_b01 (b : Bool) : sBo (b01 b) := by cases b <;> first | exact Or.inl rfl | exact Or.inr rfl
theorem hi_nI {a b : Nat} (ha : a < 2 ^ 31) (hb : b < 2 ^ 31) (h : ¬ b < a) : nI b < 0 ∨ nI a ≤ nI b := Or.inr ((nI_leI ha hb).mpr (by omega))
theorem sFew_pos (P : Nat → Nat → Int32) (X : xX) : ∀ n, sFew P X n = -1 ∨ 0 < sFew P X n
  | 0 => Or.inl rfl
  | n + 1 => by
    show (if sAct P X n = true ∧ 0 < sUnt P X n ∧ (sFew P X n = -1 ∨ sUnt P X n < sFew P X n) then sUnt P X n else sFew P X n) = -1 ∨ 0 < (if sAct P X n = true ∧ 0 < sUnt P X n ∧ (sFew P X n = -1 ∨ sUnt P X n < sFew P X n) then sUnt P X n else sFew P X n)
    split
    · rename_i h; exact Or.inr h.2.1
    · exact sFew_pos P X n
def vOf (h : xS) (I : xI) (p u : Nat) : Int32 := if p < sNp h then (if u = 0 then nI (sSz h p) else I [5, p] 3) else -1001
def vC0 (h : xS) (I : xI) (c k : Nat) : Int32 := if c < sNc h then (match k with | 0 => nI (sCnt (gX I c) 97 (sSz h (sPl h c))) | 1 => b01 (sOvr (vP I (sPl h c)) (gX I c) (sSz h (sPl h c))) | 2 => I [11, c, 0] 9 | 3 => I [11, c, 0] 6 | 4 => nI (sPl h c) | 5 => I [11, c, 0] 7 | _ => I [11, c, 0] 10) else -1001
def vAt (h : xS) (I : xI) (c j w : Nat) : Int32 := if j < sSz h (sPl h c) then (if w = 0 then I [11, c, 2] j else if w = 2 then I [11, c, 4] j else I [11, c, 5] j) else -1001
theorem LW.n {h : xS} {I : xI} {jn : Nat} (hL : LW h I jn) : sNp h ≤ 3 ∧ sNc h ≤ 4 ∧ (∀ p, p < sNp h → sSz h p ≤ 8) ∧ ∀ c, c < sNc h → sPl h c < sNp h ∧ 0 < sSz h (sPl h c) ∧ sSz h (sPl h c) ≤ 8 := ⟨hL.1.1.1.1, hL.1.2.1.1.1, fun p hp => (hL.1.1.1.2.2 p hp).1, fun c hc => ⟨(hL.1.2.1.1.2.2 c hc).1, (hL.1.2.1.2 c hc).2.2.1, (hL.1.1.1.2.2 _ (hL.1.2.1.1.2.2 c hc).1).1⟩⟩
theorem r_of0 {l : Launch} (hst : l.stackTraces = false) (g : xG) {h : xS} {I : xI} (n : Nat) {jn : Nat} (hL : LW h I jn) (p : Nat) (hp : p < 2 ^ 31) : ∃ fr lo, (fr ≤ 9 ∧ lo ≤ 180) ∧ xMl l yL_of cL_of 4 (some FieldType.int) [(0, 25, 26, 19)] fr lo g [.ref (ga g [0]), .int (nI p), .int 0] (xR g (xD h) I (xFh h) n) (some (.int (vOf h I p 0))) (xG_ g (xD h) I (xFh h) n) 1 6 := by
  have hW := hL.1.1.1
  have hC := hL.1.2.1.1
  have hn := hL.n
  by_cases hq : p < sNp h
  · rw [show vOf h I p 0 = _ from (if_pos hq).trans (if_pos rfl)]
    exact ⟨_, _, ⟨by omega, by omega⟩, w_of0 l g (xD h) I (xFh h) n _ _ 0 0 1 6 (nI p) _ _ _ trivial ⟨by omega, by omega⟩ (fun _ hH => ⟨n, Nat.le_refl _, hH⟩) (c_X6_steps l g h I n hW p hq)⟩
  · rw [show vOf h I p 0 = _ from if_neg hq]
    exact ⟨_, _, ⟨by omega, by omega⟩, w_of0_eIO l g (xD h) I (xFh h) n _ _ (nI p) trivial (t_X6_steps_p l hst g h I n hW (nI p) (hi_nI (by omega) hp hq))⟩
theorem r_of1 {l : Launch} (hst : l.stackTraces = false) (g : xG) {h : xS} {I : xI} (n : Nat) {jn : Nat} (hL : LW h I jn) (p : Nat) (hp : p < 2 ^ 31) : ∃ fr lo, (fr ≤ 9 ∧ lo ≤ 180) ∧ xMl l yL_of cL_of 4 (some FieldType.int) [(0, 25, 26, 19)] fr lo g [.ref (ga g [0]), .int (nI p), .int 1] (xR g (xD h) I (xFh h) n) (some (.int (vOf h I p 1))) (xG_ g (xD h) I (xFh h) n) 1 6 := by
  have hW := hL.1.1.1
  have hC := hL.1.2.1.1
  have hn := hL.n
  by_cases hq : p < sNp h
  · rw [show vOf h I p 1 = _ from (if_pos hq).trans (if_neg (by decide))]
    exact ⟨_, _, ⟨by omega, by omega⟩, w_of1 l g (xD h) I (xFh h) n _ _ 0 0 1 6 (nI p) _ _ _ (hL.1.1.2 p hq).1 trivial ⟨by omega, by omega⟩ (fun _ hH => ⟨n, Nat.le_refl _, hH⟩) (c_X6_isUsed l g h I n hW p hq (hL.1.1.2 p hq).1)⟩
  · rw [show vOf h I p 1 = _ from if_neg hq]
    exact ⟨_, _, ⟨by omega, by omega⟩, w_of1_eIO l g (xD h) I (xFh h) n _ _ (nI p) trivial (t_X6_isUsed_p l hst g h I n hW (nI p) (hi_nI (by omega) hp hq))⟩
theorem r_c0 {l : Launch} (hst : l.stackTraces = false) (g : xG) {h : xS} {I : xI} (n : Nat) {jn : Nat} (hL : LW h I jn) (c : Nat) (hc : c < 2 ^ 31) : ∃ fr lo, (fr ≤ 9 ∧ lo ≤ 180) ∧ xMl l yL_case0 cL_case0 4 (some FieldType.int) [(0, 49, 108, 19), (50, 63, 108, 19), (64, 69, 108, 19), (70, 75, 108, 19), (76, 81, 108, 19), (82, 95, 108, 19), (96, 101, 108, 19), (102, 107, 108, 19), (0, 49, 113, 98), (50, 63, 113, 98), (64, 69, 113, 98), (70, 75, 113, 98), (76, 81, 113, 98), (82, 95, 113, 98), (96, 101, 113, 98), (102, 107, 113, 98)] fr lo g [.ref (ga g [0]), .int (nI c), .int 0] (xR g (xD h) I (xFh h) n) (some (.int (vC0 h I c 0))) (xG_ g (xD h) I (xFh h) n) 1 6 := by
  have hW := hL.1.1.1
  have hC := hL.1.2.1.1
  have hn := hL.n
  by_cases hq : c < sNc h
  · rw [show vC0 h I c 0 = _ from if_pos hq]
    exact ⟨_, _, ⟨by omega, by omega⟩, w_case00 l g (xD h) I (xFh h) n _ _ 0 0 1 6 (nI c) _ _ _ trivial ⟨by omega, by omega⟩ (fun _ hH => ⟨n, Nat.le_refl _, hH⟩) (c_X6_active l g h I n hW hC c hq)⟩
  · rw [show vC0 h I c 0 = _ from if_neg hq]
    exact ⟨_, _, ⟨by omega, by omega⟩, w_case00_eIO l g (xD h) I (xFh h) n _ _ (nI c) trivial (t_X6_active_c l hst g h I n hC (nI c) (hi_nI (by omega) hc hq))⟩
theorem r_c1 {l : Launch} (hst : l.stackTraces = false) (g : xG) {h : xS} {I : xI} (n : Nat) {jn : Nat} (hL : LW h I jn) (c : Nat) (hc : c < 2 ^ 31) : ∃ fr lo, (fr ≤ 9 ∧ lo ≤ 180) ∧ xMl l yL_case0 cL_case0 4 (some FieldType.int) [(0, 49, 108, 19), (50, 63, 108, 19), (64, 69, 108, 19), (70, 75, 108, 19), (76, 81, 108, 19), (82, 95, 108, 19), (96, 101, 108, 19), (102, 107, 108, 19), (0, 49, 113, 98), (50, 63, 113, 98), (64, 69, 113, 98), (70, 75, 113, 98), (76, 81, 113, 98), (82, 95, 113, 98), (96, 101, 113, 98), (102, 107, 113, 98)] fr lo g [.ref (ga g [0]), .int (nI c), .int 1] (xR g (xD h) I (xFh h) n) (some (.int (vC0 h I c 1))) (xG_ g (xD h) I (xFh h) n) 1 6 := by
  have hW := hL.1.1.1
  have hC := hL.1.2.1.1
  have hn := hL.n
  by_cases hq : c < sNc h
  · rw [show vC0 h I c 1 = _ from if_pos hq]
    exact ⟨_, _, ⟨by omega, by omega⟩, w_case01 l g (xD h) I (xFh h) n _ _ 0 0 1 6 (nI c) _ _ _ (bo_b01 _) trivial ⟨by omega, by omega⟩ (fun _ hH => ⟨n, Nat.le_refl _, hH⟩) (c_X6_isOver l g h I n hW hC c hq)⟩
  · rw [show vC0 h I c 1 = _ from if_neg hq]
    exact ⟨_, _, ⟨by omega, by omega⟩, w_case01_eIO l g (xD h) I (xFh h) n _ _ (nI c) trivial (t_X6_isOver_c l hst g h I n hC (nI c) (hi_nI (by omega) hc hq))⟩
theorem r_c2 {l : Launch} (hst : l.stackTraces = false) (g : xG) {h : xS} {I : xI} (n : Nat) {jn : Nat} (hL : LW h I jn) (c : Nat) (hc : c < 2 ^ 31) : ∃ fr lo, (fr ≤ 9 ∧ lo ≤ 180) ∧ xMl l yL_case0 cL_case0 4 (some FieldType.int) [(0, 49, 108, 19), (50, 63, 108, 19), (64, 69, 108, 19), (70, 75, 108, 19), (76, 81, 108, 19), (82, 95, 108, 19), (96, 101, 108, 19), (102, 107, 108, 19), (0, 49, 113, 98), (50, 63, 113, 98), (64, 69, 113, 98), (70, 75, 113, 98), (76, 81, 113, 98), (82, 95, 113, 98), (96, 101, 113, 98), (102, 107, 113, 98)] fr lo g [.ref (ga g [0]), .int (nI c), .int 2] (xR g (xD h) I (xFh h) n) (some (.int (vC0 h I c 2))) (xG_ g (xD h) I (xFh h) n) 1 6 := by
  have hW := hL.1.1.1
  have hC := hL.1.2.1.1
  have hn := hL.n
  by_cases hq : c < sNc h
  · rw [show vC0 h I c 2 = _ from if_pos hq]
    exact ⟨_, _, ⟨by omega, by omega⟩, w_case02 l g (xD h) I (xFh h) n _ _ 0 0 1 6 (nI c) _ _ _ trivial ⟨by omega, by omega⟩ (fun _ hH => ⟨n, Nat.le_refl _, hH⟩) (c_X6_rounds l g h I n hW hC c hq)⟩
  · rw [show vC0 h I c 2 = _ from if_neg hq]
    exact ⟨_, _, ⟨by omega, by omega⟩, w_case02_eIO l g (xD h) I (xFh h) n _ _ (nI c) trivial (t_X6_rounds_c l hst g h I n hC (nI c) (hi_nI (by omega) hc hq))⟩
theorem r_c3 {l : Launch} (hst : l.stackTraces = false) (g : xG) {h : xS} {I : xI} (n : Nat) {jn : Nat} (hL : LW h I jn) (c : Nat) (hc : c < 2 ^ 31) : ∃ fr lo, (fr ≤ 9 ∧ lo ≤ 180) ∧ xMl l yL_case0 cL_case0 4 (some FieldType.int) [(0, 49, 108, 19), (50, 63, 108, 19), (64, 69, 108, 19), (70, 75, 108, 19), (76, 81, 108, 19), (82, 95, 108, 19), (96, 101, 108, 19), (102, 107, 108, 19), (0, 49, 113, 98), (50, 63, 113, 98), (64, 69, 113, 98), (70, 75, 113, 98), (76, 81, 113, 98), (82, 95, 113, 98), (96, 101, 113, 98), (102, 107, 113, 98)] fr lo g [.ref (ga g [0]), .int (nI c), .int 3] (xR g (xD h) I (xFh h) n) (some (.int (vC0 h I c 3))) (xG_ g (xD h) I (xFh h) n) 1 6 := by
  have hW := hL.1.1.1
  have hC := hL.1.2.1.1
  have hn := hL.n
  by_cases hq : c < sNc h
  · rw [show vC0 h I c 3 = _ from if_pos hq]
    exact ⟨_, _, ⟨by omega, by omega⟩, w_case03 l g (xD h) I (xFh h) n _ _ 0 0 1 6 (nI c) _ _ _ trivial ⟨by omega, by omega⟩ (fun _ hH => ⟨n, Nat.le_refl _, hH⟩) (c_X6_days l g h I n hW hC c hq)⟩
  · rw [show vC0 h I c 3 = _ from if_neg hq]
    exact ⟨_, _, ⟨by omega, by omega⟩, w_case03_eIO l g (xD h) I (xFh h) n _ _ (nI c) trivial (t_X6_days_c l hst g h I n hC (nI c) (hi_nI (by omega) hc hq))⟩
theorem r_c4 {l : Launch} (hst : l.stackTraces = false) (g : xG) {h : xS} {I : xI} (n : Nat) {jn : Nat} (hL : LW h I jn) (c : Nat) (hc : c < 2 ^ 31) : ∃ fr lo, (fr ≤ 9 ∧ lo ≤ 180) ∧ xMl l yL_case0 cL_case0 4 (some FieldType.int) [(0, 49, 108, 19), (50, 63, 108, 19), (64, 69, 108, 19), (70, 75, 108, 19), (76, 81, 108, 19), (82, 95, 108, 19), (96, 101, 108, 19), (102, 107, 108, 19), (0, 49, 113, 98), (50, 63, 113, 98), (64, 69, 113, 98), (70, 75, 113, 98), (76, 81, 113, 98), (82, 95, 113, 98), (96, 101, 113, 98), (102, 107, 113, 98)] fr lo g [.ref (ga g [0]), .int (nI c), .int 4] (xR g (xD h) I (xFh h) n) (some (.int (vC0 h I c 4))) (xG_ g (xD h) I (xFh h) n) 1 6 := by
  have hW := hL.1.1.1
  have hC := hL.1.2.1.1
  have hn := hL.n
  by_cases hq : c < sNc h
  · rw [show vC0 h I c 4 = _ from if_pos hq]
    exact ⟨_, _, ⟨by omega, by omega⟩, w_case04 l g (xD h) I (xFh h) n _ _ 0 0 1 6 (nI c) _ _ _ trivial ⟨by omega, by omega⟩ (fun _ hH => ⟨n, Nat.le_refl _, hH⟩) (c_X6_planOf l g h I n hW hC c hq)⟩
  · rw [show vC0 h I c 4 = _ from if_neg hq]
    exact ⟨_, _, ⟨by omega, by omega⟩, w_case04_eIO l g (xD h) I (xFh h) n _ _ (nI c) trivial (t_X6_planOf_c l hst g h I n hC (nI c) (hi_nI (by omega) hc hq))⟩
theorem r_c5 {l : Launch} (hst : l.stackTraces = false) (g : xG) {h : xS} {I : xI} (n : Nat) {jn : Nat} (hL : LW h I jn) (c : Nat) (hc : c < 2 ^ 31) : ∃ fr lo, (fr ≤ 9 ∧ lo ≤ 180) ∧ xMl l yL_case0 cL_case0 4 (some FieldType.int) [(0, 49, 108, 19), (50, 63, 108, 19), (64, 69, 108, 19), (70, 75, 108, 19), (76, 81, 108, 19), (82, 95, 108, 19), (96, 101, 108, 19), (102, 107, 108, 19), (0, 49, 113, 98), (50, 63, 113, 98), (64, 69, 113, 98), (70, 75, 113, 98), (76, 81, 113, 98), (82, 95, 113, 98), (96, 101, 113, 98), (102, 107, 113, 98)] fr lo g [.ref (ga g [0]), .int (nI c), .int 5] (xR g (xD h) I (xFh h) n) (some (.int (vC0 h I c 5))) (xG_ g (xD h) I (xFh h) n) 1 6 := by
  have hW := hL.1.1.1
  have hC := hL.1.2.1.1
  have hn := hL.n
  by_cases hq : c < sNc h
  · rw [show vC0 h I c 5 = _ from if_pos hq]
    exact ⟨_, _, ⟨by omega, by omega⟩, w_case05 l g (xD h) I (xFh h) n _ _ 0 0 1 6 (nI c) _ _ _ (hL.1.2.1.2 c hq).2.1 trivial ⟨by omega, by omega⟩ (fun _ hH => ⟨n, Nat.le_refl _, hH⟩) (c_X6_isWaiting l g h I n hW hC c hq (hL.1.2.1.2 c hq).2.1)⟩
  · rw [show vC0 h I c 5 = _ from if_neg hq]
    exact ⟨_, _, ⟨by omega, by omega⟩, w_case05_eIO l g (xD h) I (xFh h) n _ _ (nI c) trivial (t_X6_isWaiting_c l hst g h I n hC (nI c) (hi_nI (by omega) hc hq))⟩
theorem r_c6 {l : Launch} (hst : l.stackTraces = false) (g : xG) {h : xS} {I : xI} (n : Nat) {jn : Nat} (hL : LW h I jn) (c : Nat) (hc : c < 2 ^ 31) : ∃ fr lo, (fr ≤ 9 ∧ lo ≤ 180) ∧ xMl l yL_case0 cL_case0 4 (some FieldType.int) [(0, 49, 108, 19), (50, 63, 108, 19), (64, 69, 108, 19), (70, 75, 108, 19), (76, 81, 108, 19), (82, 95, 108, 19), (96, 101, 108, 19), (102, 107, 108, 19), (0, 49, 113, 98), (50, 63, 113, 98), (64, 69, 113, 98), (70, 75, 113, 98), (76, 81, 113, 98), (82, 95, 113, 98), (96, 101, 113, 98), (102, 107, 113, 98)] fr lo g [.ref (ga g [0]), .int (nI c), .int 6] (xR g (xD h) I (xFh h) n) (some (.int (vC0 h I c 6))) (xG_ g (xD h) I (xFh h) n) 1 6 := by
  have hW := hL.1.1.1
  have hC := hL.1.2.1.1
  have hn := hL.n
  by_cases hq : c < sNc h
  · rw [show vC0 h I c 6 = _ from if_pos hq]
    exact ⟨_, _, ⟨by omega, by omega⟩, w_case06 l g (xD h) I (xFh h) n _ _ 0 0 1 6 (nI c) _ _ _ trivial ⟨by omega, by omega⟩ (fun _ hH => ⟨n, Nat.le_refl _, hH⟩) (c_X6_happened l g h I n hW hC c hq)⟩
  · rw [show vC0 h I c 6 = _ from if_neg hq]
    exact ⟨_, _, ⟨by omega, by omega⟩, w_case06_eIO l g (xD h) I (xFh h) n _ _ (nI c) trivial (t_X6_happened_c l hst g h I n hC (nI c) (hi_nI (by omega) hc hq))⟩
theorem r_a0 {l : Launch} (hst : l.stackTraces = false) (g : xG) {h : xS} {I : xI} (n : Nat) {jn : Nat} (hL : LW h I jn) (c : Nat) (hc : c < sNc h) (j : Nat) (hj : j < 2 ^ 31) : ∃ fr lo, (fr ≤ 9 ∧ lo ≤ 180) ∧ xMl l yL_at cL_at 5 (some FieldType.int) [(0, 83, 84, 19)] fr lo g [.ref (ga g [0]), .int (nI c), .int (nI j), .int 0] (xR g (xD h) I (xFh h) n) (some (.int (vAt h I c j 0))) (xG_ g (xD h) I (xFh h) n) 1 6 := by
  have hW := hL.1.1.1
  have hC := hL.1.2.1.1
  have hn := hL.n
  by_cases hq : j < sSz h (sPl h c)
  · rw [show vAt h I c j 0 = _ from (if_pos hq).trans (if_pos rfl)]
    exact ⟨_, _, ⟨by omega, by omega⟩, w_at0 l g (xD h) I (xFh h) n _ _ 0 0 1 6 (nI c) (nI j) _ _ _ trivial ⟨by omega, by omega⟩ (fun _ hH => ⟨n, Nat.le_refl _, hH⟩) (c_X6_state l g h I n hW hC c hc j hq)⟩
  · rw [show vAt h I c j 0 = _ from if_neg hq]
    exact ⟨_, _, ⟨by omega, by omega⟩, w_at0_eIO l g (xD h) I (xFh h) n _ _ (nI c) (nI j) trivial (t_X6_state_s l hst g h I n hW hC c hc (nI j) (hi_nI (by have := (hn.2.2.2 c hc).2.2; omega) hj hq))⟩
theorem r_a2 {l : Launch} (hst : l.stackTraces = false) (g : xG) {h : xS} {I : xI} (n : Nat) {jn : Nat} (hL : LW h I jn) (c : Nat) (hc : c < sNc h) (j : Nat) (hj : j < 2 ^ 31) : ∃ fr lo, (fr ≤ 9 ∧ lo ≤ 180) ∧ xMl l yL_at cL_at 5 (some FieldType.int) [(0, 83, 84, 19)] fr lo g [.ref (ga g [0]), .int (nI c), .int (nI j), .int 2] (xR g (xD h) I (xFh h) n) (some (.int (vAt h I c j 2))) (xG_ g (xD h) I (xFh h) n) 1 6 := by
  have hW := hL.1.1.1
  have hC := hL.1.2.1.1
  have hn := hL.n
  by_cases hq : j < sSz h (sPl h c)
  · rw [show vAt h I c j 2 = _ from (if_pos hq).trans ((if_neg (by decide)).trans (if_pos rfl))]
    exact ⟨_, _, ⟨by omega, by omega⟩, w_at2 l g (xD h) I (xFh h) n _ _ 0 0 1 6 (nI c) (nI j) _ _ _ trivial ⟨by omega, by omega⟩ (fun _ hH => ⟨n, Nat.le_refl _, hH⟩) (c_X6_clock l g h I n hW hC c hc j hq)⟩
  · rw [show vAt h I c j 2 = _ from if_neg hq]
    exact ⟨_, _, ⟨by omega, by omega⟩, w_at2_eIO l g (xD h) I (xFh h) n _ _ (nI c) (nI j) trivial (t_X6_clock_s l hst g h I n hW hC c hc (nI j) (hi_nI (by have := (hn.2.2.2 c hc).2.2; omega) hj hq))⟩
theorem r_a4 {l : Launch} (hst : l.stackTraces = false) (g : xG) {h : xS} {I : xI} (n : Nat) {jn : Nat} (hL : LW h I jn) (c : Nat) (hc : c < sNc h) (j : Nat) (hj : j < 2 ^ 31) : ∃ fr lo, (fr ≤ 9 ∧ lo ≤ 180) ∧ xMl l yL_at cL_at 5 (some FieldType.int) [(0, 83, 84, 19)] fr lo g [.ref (ga g [0]), .int (nI c), .int (nI j), .int 4] (xR g (xD h) I (xFh h) n) (some (.int (vAt h I c j 4))) (xG_ g (xD h) I (xFh h) n) 1 6 := by
  have hW := hL.1.1.1
  have hC := hL.1.2.1.1
  have hn := hL.n
  by_cases hq : j < sSz h (sPl h c)
  · rw [show vAt h I c j 4 = _ from (if_pos hq).trans ((if_neg (by decide)).trans (if_neg (by decide)))]
    exact ⟨_, _, ⟨by omega, by omega⟩, w_at4 l g (xD h) I (xFh h) n _ _ 0 0 1 6 (nI c) (nI j) _ _ _ trivial ⟨by omega, by omega⟩ (fun _ hH => ⟨n, Nat.le_refl _, hH⟩) (c_X6_count l g h I n hW hC c hc j hq)⟩
  · rw [show vAt h I c j 4 = _ from if_neg hq]
    exact ⟨_, _, ⟨by omega, by omega⟩, w_at4_eIO l g (xD h) I (xFh h) n _ _ (nI c) (nI j) trivial (t_X6_count_s l hst g h I n hW hC c hc (nI j) (hi_nI (by have := (hn.2.2.2 c hc).2.2; omega) hj hq))⟩
theorem r_a5 {l : Launch} (hst : l.stackTraces = false) (g : xG) {h : xS} {I : xI} (n : Nat) {jn : Nat} (hL : LW h I jn) (c : Nat) (hc : c < sNc h) (j : Nat) (hj : j < sSz h (sPl h c)) : ∃ fr lo, (fr ≤ 9 ∧ lo ≤ 180) ∧ xMl l yL_at cL_at 5 (some FieldType.int) [(0, 83, 84, 19)] fr lo g [.ref (ga g [0]), .int (nI c), .int (nI j), .int 5] (xR g (xD h) I (xFh h) n) (some (.int (b01 (sLte (vP I (sPl h c)) (gX I c) j)))) (xG_ g (xD h) I (xFh h) n) 1 6 := by
  have hW := hL.1.1.1
  have hC := hL.1.2.1.1
  have hn := hL.n
  exact ⟨_, _, ⟨by omega, by omega⟩, w_at5 l g (xD h) I (xFh h) n _ _ 0 0 1 6 (nI c) (nI j) _ _ _ (bo_b01 _) trivial ⟨by omega, by omega⟩ (fun _ hH => ⟨n, Nat.le_refl _, hH⟩) (c_X6_isLate l g h I n hW hC c hc j hj)⟩
theorem r_da {l : Launch} (hst : l.stackTraces = false) (g : xG) {h : xS} {I : xI} (n : Nat) {jn : Nat} (hL : LW h I jn) (c : Nat) (hc : c < sNc h) (d : Nat) (hd : d < 4) : ∃ fr lo, (fr ≤ 9 ∧ lo ≤ 180) ∧ xMl l yL_datum cL_datum 4 (some FieldType.int) [(0, 6, 7, 19), (0, 6, 12, 21)] fr lo g [.ref (ga g [0]), .int (nI c), .int (nI d)] (xR g (xD h) I (xFh h) n) (some (.int (I [11, c, 1] d))) (xG_ g (xD h) I (xFh h) n) 1 6 := by
  have hW := hL.1.1.1
  have hC := hL.1.2.1.1
  have hn := hL.n
  exact ⟨_, _, ⟨by omega, by omega⟩, w_datum l g (xD h) I (xFh h) n _ _ 0 0 1 6 (nI c) (nI d) _ _ _ trivial ⟨by omega, by omega⟩ (fun _ hH => ⟨n, Nat.le_refl _, hH⟩) (c_X6_datum l g h I n hW hC c hc d hd)⟩
theorem r_sh {l : Launch} (hst : l.stackTraces = false) (g : xG) {h : xS} {I : xI} (n : Nat) {jn : Nat} (hL : LW h I jn) (c : Nat) (hc : c < sNc h) : ∃ fr lo, (fr ≤ 9 ∧ lo ≤ 180) ∧ xMl l yL_share cL_share 3 (some FieldType.float) [(0, 5, 6, 19)] fr lo g [.ref (ga g [0]), .int (nI c)] (xR g (xD h) I (xFh h) n) (some (.float (sShr (sCnt (gX I c) 99 (sSz h (sPl h c))) (sSz h (sPl h c))))) (xG_ g (xD h) I (xFh h) n) 1 6 := by
  have hW := hL.1.1.1
  have hC := hL.1.2.1.1
  have hn := hL.n
  exact ⟨_, _, ⟨by omega, by omega⟩, w_share l g (xD h) I (xFh h) n _ _ 0 0 1 6 (nI c) _ _ _ trivial ⟨by omega, by omega⟩ (fun _ hH => ⟨n, Nat.le_refl _, hH⟩) (c_X6_doneShare l g h I n hW hC c hc (hn.2.2.2 c hc).2.1)⟩
theorem r_c7 {l : Launch} (hst : l.stackTraces = false) (g : xG) {h : xS} {I : xI} (n : Nat) {jn : Nat} (hL : LW h I jn) (c : Nat) (hc : c < sNc h) : ∃ (v : Int32) (fr lo : Nat), v ≠ 0 ∧ (fr ≤ 9 ∧ lo ≤ 180) ∧ xMl l yL_case0 cL_case0 4 (some FieldType.int) [(0, 49, 108, 19), (50, 63, 108, 19), (64, 69, 108, 19), (70, 75, 108, 19), (76, 81, 108, 19), (82, 95, 108, 19), (96, 101, 108, 19), (102, 107, 108, 19), (0, 49, 113, 98), (50, 63, 113, 98), (64, 69, 113, 98), (70, 75, 113, 98), (76, 81, 113, 98), (82, 95, 113, 98), (96, 101, 113, 98), (102, 107, 113, 98)] fr lo g [.ref (ga g [0]), .int (nI c), .int 7] (xR g (xD h) I (xFh h) n) (some (.int v)) (xG_ g (xD h) I (xFh h) n) 1 6 := by
  have hW := hL.1.1.1
  have hC := hL.1.2.1.1
  by_cases hf : sFew (vP I (sPl h c)) (gX I c) (sSz h (sPl h c)) = -1
  · exact ⟨-1002, _, _, by decide, ⟨by omega, by omega⟩, w_case07_eNS l g (xD h) I (xFh h) n _ _ (nI c) trivial (t_X6_daysLeft_n l hst g h I n hW hC c hc hf)⟩
  · exact ⟨_, _, _, fun z => by
      have q := (sFew_pos (vP I (sPl h c)) (gX I c) (sSz h (sPl h c))).resolve_left hf
      rw [z] at q
      exact absurd q (by decide), ⟨by omega, by omega⟩, w_case07 l g (xD h) I (xFh h) n _ _ 0 0 1 6 (nI c) _ _ _ trivial ⟨by omega, by omega⟩ (fun _ hH => ⟨n, Nat.le_refl _, hH⟩) (c_X6_daysLeft l g h I n hW hC c hc hf)⟩
/-- what is replayed: the numbers of the replayed case within the rows -/
theorem LW.rep {h : xS} {I : xI} {jn : Nat} (hL : LW h I jn) (hn : nrm (gX I 4) = gX I 4) {c : Nat} (hc : c < sNc h) : ∃ (q : Nat) (Z : xX) (r : Nat → Int32), (sRep h I (nI c) (false, (sPl h 4, gX I 4)) jn).2 = (q, Z) ∧ Z = rq3 (gX I c) r ∧ LW (hPl h 4 q) (sX I 4 Z) jn ∧ sJV h I (nI c) (false, (sPl h 4, gX I 4)) jn := by
  obtain ⟨a, b, d, r, f⟩ := hL.1.2.2.2.1.2.2 c hc (sPl h 4) (gX I 4) hn
  refine ⟨sPl h c, rq3 (gX I c) r, r, Prod.ext d f, rfl, ⟨?_, ?_⟩, a⟩
  · have h1 : LV h (sX I 4 (rq3 (gX I c) r)) jn := by
      refine hL.1.same (fun id hi => ?_) ?_
      · rcases sX_cases I 4 (rq3 (gX I c) r) id with ⟨k, rfl, -⟩ | ⟨-, e⟩
        · exact absurd hi (by simp [lvI])
        · exact e
      · rw [gX_sX]; exact fun k => (hL.1.2.1.1.2.2 c hc).2 k
    exact h1.hp4 rfl rfl rfl rfl (fun d hd => if_neg (by omega))
  · show (if 4 = 4 then sPl h c else sPl h 4) < sNp h ∨ _
    rw [if_pos rfl]
    exact Or.inl (hL.1.2.1.1.2.2 c hc).1
theorem r_a1 {l : Launch} (hst : l.stackTraces = false) (g : xG) {h : xS} {I : xI} (n : Nat) {jn : Nat} (hL : LW h I jn) (hn : nrm (gX I 4) = gX I 4) (hj512 : jn ≤ 512) (c : Nat) (hc : c < sNc h) (j : Nat) (hj : j < sSz h (sPl h c)) : ∃ (fr lo q : Nat) (Z : xX), (fr ≤ 9 ∧ lo ≤ 180) ∧ LW (hPl h 4 q) (sX I 4 Z) jn ∧ xMl l yL_at cL_at 5 (some FieldType.int) [(0, 83, 84, 19)] fr lo g [.ref (ga g [0]), .int (nI c), .int (nI j), .int 1] (xR g (xD h) I (xFh h) n) (some (.int (gX I c 2 j))) (xR g (xD h) (sX I 4 Z) (xFh (hPl h 4 q)) n) 1 6 := by
  have hW := hL.1.1.1
  have hC := hL.1.2.1.1
  obtain ⟨q, Z, r, e1, e2, e3, e4⟩ := hL.rep hn hc
  have k := c_X6_stateByReplay l g h I n hW hC c hc jn hj512 hL.1.2.2.2.1.1 hL.1.2.2.2.2 e4 j hj
  rw [e1] at k
  have ev : (q, Z).2 2 j = gX I c 2 j := by rw [e2]; rfl
  rw [ev] at k
  exact ⟨_, _, q, Z, ⟨by omega, by omega⟩, e3, w_at1 l g (xD h) I (xFh h) n _ _ 0 0 1 6 (nI c) (nI j) _ _ _ trivial ⟨by omega, by omega⟩ (fun _ hH => hH) k⟩
theorem r_a3 {l : Launch} (hst : l.stackTraces = false) (g : xG) {h : xS} {I : xI} (n : Nat) {jn : Nat} (hL : LW h I jn) (hn : nrm (gX I 4) = gX I 4) (hj512 : jn ≤ 512) (c : Nat) (hc : c < sNc h) (j : Nat) (hj : j < sSz h (sPl h c)) : ∃ (fr lo q : Nat) (Z : xX), (fr ≤ 9 ∧ lo ≤ 180) ∧ LW (hPl h 4 q) (sX I 4 Z) jn ∧ xMl l yL_at cL_at 5 (some FieldType.int) [(0, 83, 84, 19)] fr lo g [.ref (ga g [0]), .int (nI c), .int (nI j), .int 3] (xR g (xD h) I (xFh h) n) (some (.int (gX I c 4 j))) (xR g (xD h) (sX I 4 Z) (xFh (hPl h 4 q)) n) 1 6 := by
  have hW := hL.1.1.1
  have hC := hL.1.2.1.1
  obtain ⟨q, Z, r, e1, e2, e3, e4⟩ := hL.rep hn hc
  have k := c_X6_clockByReplay l g h I n hW hC c hc jn hj512 hL.1.2.2.2.1.1 hL.1.2.2.2.2 e4 j hj
  rw [e1] at k
  have ev : (q, Z).2 4 j = gX I c 4 j := by rw [e2]; rfl
  rw [ev] at k
  exact ⟨_, _, q, Z, ⟨by omega, by omega⟩, e3, w_at3 l g (xD h) I (xFh h) n _ _ 0 0 1 6 (nI c) (nI j) _ _ _ trivial ⟨by omega, by omega⟩ (fun _ hH => hH) k⟩
