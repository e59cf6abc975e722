/-! THE LAW'S SMALL METHODS, Math.max, String.charAt of two strings -/
theorem xE.e2 {g : xG} {s : State} {H : Heap} (h : xE g s H) : xE2 g s H := h.2.2.2.2.2.2.2
theorem nd_div {a b : Nat} (ha : a < 2 ^ 31) (h0 : 0 < b) (hb : b < 2 ^ 31) : nI a / nI b = nI (a / b) := by
  have h1 : (nI a).toInt = (a : Int) := nI_toInt ha
  have h2 : (nI b).toInt = (b : Int) := nI_toInt hb
  have h3 : a / b < 2 ^ 31 := Nat.lt_of_le_of_lt (Nat.div_le_self a b) ha
  apply Int32.toInt_inj.mp
  rw [lg_idiv_nonneg (by omega) (by omega), h1, h2, nI_toInt h3]
  rfl
theorem nd_rem {a b : Nat} (ha : a < 2 ^ 31) (h0 : 0 < b) (hb : b < 2 ^ 31) : nI a - nI a / nI b * nI b = nI (a % b) := by
  have h3 : a % b < 2 ^ 31 := Nat.lt_of_le_of_lt (Nat.mod_le a b) ha
  apply Int32.toInt_inj.mp
  rw [rem_toInt, nI_toInt ha, nI_toInt hb, nI_toInt h3]
  rfl
theorem nd_ne {b : Nat} (h0 : 0 < b) (hb : b < 2 ^ 31) : ¬ nI b = 0 := nI_ne0 h0 hb
def sM (v n : Int32) : Int32 := if v - v / n * n < 0 then v - v / n * n + n else v - v / n * n
theorem sM_nI (v : Int32) {m : Nat} (h0 : 0 < m) (hm : m < 2 ^ 30) : ∃ q, q < m ∧ sM v (nI m) = nI q := by
  have h2 : (nI m).toInt = (m : Int) := nI_toInt (by omega)
  have e : (v - v / nI m * nI m).toInt = v.toInt.tmod (m : Int) := by rw [rem_toInt, h2]
  have b := tmod_bounds (a := v.toInt) (M := (m : Int)) (by omega)
  rw [← e] at b
  unfold sM
  generalize v - v / nI m * nI m = r at b
  by_cases hr : r < 0
  · rw [if_pos hr]
    rw [Int32.lt_iff_toInt_lt, show (0 : Int32).toInt = 0 from by decide] at hr
    have h1 : (r + nI m).toInt = r.toInt + m := by rw [Int32.toInt_add, h2, Int.bmod_eq_of_le (by omega) (by omega)]
    obtain ⟨i, hi2, hi1⟩ := nI_of (x := r + nI m) (by rw [Int32.lt_iff_toInt_lt, h1, show (0 : Int32).toInt = 0 from by decide]; omega)
    refine ⟨i, ?_, hi1⟩
    rw [hi1, nI_toInt hi2] at h1
    omega
  · rw [if_neg hr]
    obtain ⟨i, hi2, hi1⟩ := nI_of (x := r) hr
    refine ⟨i, ?_, hi1⟩
    rw [hi1, nI_toInt hi2] at b
    omega
def cV (g : xG) (k : Nat) : Int32 := if k < gSl g then gSx g k else 0
set_option maxRecDepth 100000 in
theorem c_cell (l : Launch) (g : xG) (dm : List Nat → Prop) (I : xI) (F : xF) (n : Nat) (k : Nat) (hk : k < 2 ^ 31) (hL : gSl g < 2 ^ 31) : xM l yL_cell (xws yL_cell cL_cell 2 (some FieldType.int)) 1 12 g [.ref (gSb g), .int (nI k)] (xR g dm I F n) (some (.int (cV g k))) (xR g dm I F n) 0 0 := by
  refine xM.of (by decide) (Nat.le_of_ble_eq_true rfl) ?_
  intro P_ e_ s m_ bl_ mt_ cd_ ls hx hb hr hown hlocks hml hnm hE hK hts hH hS hl
  have hl : lv_has ls 2 [(0, .ref (gSb g)), (1, .int (nI k))] := hl
  have hT := hE.e2.2.2.2.2.2
  refine lv_iload_n hx hb dL_cell_0 rfl (lv_at hl 1 rfl) ?_
  refine lv_aload_n hx hb dL_cell_1 rfl (lv_at hl 0 rfl) ?_
  refine va_tlen hx hb hT hS (v := nI (gSl g)) rfl dL_cell_2 ?_
  refine lv_icmp_ge (tgt := 12) hx hb dL_cell_3 (by decide) (fun q => ?_) (fun q => ?_)
  · have e : cV g k = 0 := if_neg (by have := (nI_leI hL hk).mp q; omega)
    rw [e]
    refine lv_iconst (v := 0) hx hb dL_cell_12 (by decide) ?_
    exact x_iret hx hb hr hlocks hS dL_cell_13 rfl hH
  · have hlt : k < gSl g := Decidable.of_not_not (fun z => q ((nI_leI hL hk).mpr (by omega)))
    have e : cV g k = gSx g k := if_pos hlt
    rw [e]
    refine lv_aload_n hx hb dL_cell_6 rfl (lv_at hl 0 rfl) ?_
    refine lv_iload_n hx hb dL_cell_7 rfl (lv_at hl 1 rfl) ?_
    obtain ⟨q1, q2⟩ := x_in (i := nI k) (j := k) (L := gSl g) rfl hlt hL
    refine va_ti hx hb hT hS q1 (v := .int (gSx g k)) (by rw [q2]) dL_cell_8 ?_
    refine lv_goto (tgt := 13) hx hb dL_cell_9 (by decide) ?_
    exact x_iret hx hb hr hlocks hS dL_cell_13 rfl hH
set_option maxRecDepth 100000 in
theorem c_some (l : Launch) (g : xG) (dm : List Nat → Prop) (I : xI) (F : xF) (n : Nat) (v w : Int32) (hw : ¬ w = 0) : xM l yL_some (xws yL_some cL_some 3 (some FieldType.int)) 1 12 g [.int v, .int w] (xR g dm I F n) (some (.int (sM v w))) (xR g dm I F n) 0 0 := by
  refine xM.of (by decide) (Nat.le_of_ble_eq_true rfl) ?_
  intro P_ e_ s m_ bl_ mt_ cd_ ls hx hb hr hown hlocks hml hnm hE hK hts hH hS hl
  have hl : lv_has ls 3 [(0, .int v), (1, .int w)] := hl
  refine lv_iload_n hx hb dL_some_0 rfl (lv_at hl 0 rfl) ?_
  refine lv_iload_n hx hb dL_some_1 rfl (lv_at hl 1 rfl) ?_
  refine lv_irem hx hb dL_some_2 hw ?_
  have es : sM v w = if v - v / w * w < 0 then v - v / w * w + w else v - v / w * w := rfl
  rw [es]
  generalize v - v / w * w = r
  refine lv_istore_n (lv' := [(2, .int r), (0, .int v), (1, .int w)]) hx hb dL_some_3 rfl hl (by decide) rfl (fun ls hl => ?_)
  refine lv_iload_n hx hb dL_some_4 rfl (lv_at hl 0 rfl) ?_
  refine lv_if_ge (tgt := 14) hx hb dL_some_5 (by decide) (fun q => ?_) (fun q => ?_)
  · rw [if_neg (Int32.not_lt.mpr q)]
    refine lv_iload_n hx hb dL_some_14 rfl (lv_at hl 0 rfl) ?_
    exact x_iret hx hb hr hlocks hS dL_some_15 rfl hH
  · rw [if_pos (Int32.not_le.mp q)]
    refine lv_iload_n hx hb dL_some_8 rfl (lv_at hl 0 rfl) ?_
    refine lv_iload_n hx hb dL_some_9 rfl (lv_at hl 2 rfl) ?_
    refine lv_iadd hx hb dL_some_10 ?_
    refine lv_goto (tgt := 15) hx hb dL_some_11 (by decide) ?_
    exact x_iret hx hb hr hlocks hS dL_some_15 rfl hH
set_option maxRecDepth 100000 in
theorem c_chk_n (l : Launch) (g : xG) (dm : List Nat → Prop) (I : xI) (F : xF) (n : Nat) (j L : Nat) (hj : j < L) (hL : L < 2 ^ 31) : xM l yJ3_checkIndex_8e157 (xws yJ3_checkIndex_8e157 cJ3_checkIndex_8e157 3 (some FieldType.int)) 1 12 g [.int (nI j), .int (nI L), .null] (xR g dm I F n) (some (.int (nI j))) (xR g dm I F n) 0 0 := by
  refine xM.of (by decide) (Nat.le_of_ble_eq_true rfl) ?_
  intro P_ e_ s m_ bl_ mt_ cd_ ls hx hb hr hown hlocks hml hnm hE hK hts hH hS hl
  have hl : lv_has ls 3 [(0, .int (nI j)), (1, .int (nI L)), (2, .null)] := hl
  refine lv_iload_n hx hb dJ3_checkIndex_8e157_0 rfl (lv_at hl 0 rfl) ?_
  refine lv_if_lt (tgt := 9) hx hb dJ3_checkIndex_8e157_1 (by decide) (fun q => absurd q (nI_pos (by omega))) (fun _ => ?_)
  refine lv_iload_n hx hb dJ3_checkIndex_8e157_4 rfl (lv_at hl 0 rfl) ?_
  refine lv_iload_n hx hb dJ3_checkIndex_8e157_5 rfl (lv_at hl 1 rfl) ?_
  refine lv_icmp_lt (tgt := 16) hx hb dJ3_checkIndex_8e157_6 (by decide) (fun _ => ?_) (fun q => absurd (nI_lt hj hL) q)
  refine lv_iload_n hx hb dJ3_checkIndex_8e157_16 rfl (lv_at hl 0 rfl) ?_
  exact x_iret hx hb hr hlocks hS dJ3_checkIndex_8e157_17 rfl hH
set_option maxRecDepth 100000 in
theorem c_chk_r (l : Launch) (g : xG) (dm : List Nat → Prop) (I : xI) (F : xF) (n : Nat) (t : Nat) (j L : Nat) (hj : j < L) (hL : L < 2 ^ 31) : xM l yJ3_checkIndex_8e157 (xws yJ3_checkIndex_8e157 cJ3_checkIndex_8e157 3 (some FieldType.int)) 1 12 g [.int (nI j), .int (nI L), (.ref t)] (xR g dm I F n) (some (.int (nI j))) (xR g dm I F n) 0 0 := by
  refine xM.of (by decide) (Nat.le_of_ble_eq_true rfl) ?_
  intro P_ e_ s m_ bl_ mt_ cd_ ls hx hb hr hown hlocks hml hnm hE hK hts hH hS hl
  have hl : lv_has ls 3 [(0, .int (nI j)), (1, .int (nI L)), (2, (.ref t))] := hl
  refine lv_iload_n hx hb dJ3_checkIndex_8e157_0 rfl (lv_at hl 0 rfl) ?_
  refine lv_if_lt (tgt := 9) hx hb dJ3_checkIndex_8e157_1 (by decide) (fun q => absurd q (nI_pos (by omega))) (fun _ => ?_)
  refine lv_iload_n hx hb dJ3_checkIndex_8e157_4 rfl (lv_at hl 0 rfl) ?_
  refine lv_iload_n hx hb dJ3_checkIndex_8e157_5 rfl (lv_at hl 1 rfl) ?_
  refine lv_icmp_lt (tgt := 16) hx hb dJ3_checkIndex_8e157_6 (by decide) (fun _ => ?_) (fun q => absurd (nI_lt hj hL) q)
  refine lv_iload_n hx hb dJ3_checkIndex_8e157_16 rfl (lv_at hl 0 rfl) ?_
  exact x_iret hx hb hr hlocks hS dJ3_checkIndex_8e157_17 rfl hH
set_option maxRecDepth 100000 in
theorem c_sck (l : Launch) (g : xG) (dm : List Nat → Prop) (I : xI) (F : xF) (n : Nat) (j L : Nat) (hj : j < L) (hL : L < 2 ^ 31) : xM l yJ0_checkIndex_df160 (xws yJ0_checkIndex_df160 cJ0_checkIndex_df160 2 none) 2 34 g [.int (nI j), .int (nI L)] (xR g dm I F n) none (xR g dm I F n) 0 0 := by
  refine xM.of (by decide) (Nat.le_of_ble_eq_true rfl) ?_
  intro P_ e_ s m_ bl_ mt_ cd_ ls hx hb hr hown hlocks hml hnm hE hK hts hH hS hl
  have hl : lv_has ls 2 [(0, .int (nI j)), (1, .int (nI L))] := hl
  refine lv_iload_n hx hb dJ0_checkIndex_df160_0 rfl (lv_at hl 0 rfl) ?_
  refine lv_iload_n hx hb dJ0_checkIndex_df160_1 rfl (lv_at hl 1 rfl) ?_
  rcases hE.e2.2.2.1 with hz | ⟨t, hz⟩
  · refine va_gets hx hb hz hS (own := "java/lang/String") hown (hts _ tw814) (fun _ h => h) dJ0_checkIndex_df160_2 ?_
    refine x_S1 (own := "java/lang/String") hx hb hml hown hE hS hl.1 cyJ3_checkIndex_8e157 tw816 (c_chk_n l g dm I F n j L hj hL) ⟨Nat.le_of_ble_eq_true rfl, Nat.le_of_ble_eq_true rfl⟩ ⟨Nat.le_of_ble_eq_true rfl, Nat.le_of_ble_eq_true rfl⟩ hH rfl rfl (Nat.le_of_ble_eq_true rfl) dJ0_checkIndex_df160_5 (fun H locs hH hS => ?_)
    refine lv_pop hx hb dJ0_checkIndex_df160_8 rfl ?_
    exact x_vret hx hb hr hlocks hS dJ0_checkIndex_df160_9 hH
  · refine va_gets hx hb hz hS (own := "java/lang/String") hown (hts _ tw814) (fun _ h => h) dJ0_checkIndex_df160_2 ?_
    refine x_S1 (own := "java/lang/String") hx hb hml hown hE hS hl.1 cyJ3_checkIndex_8e157 tw816 (c_chk_r l g dm I F n t j L hj hL) ⟨Nat.le_of_ble_eq_true rfl, Nat.le_of_ble_eq_true rfl⟩ ⟨Nat.le_of_ble_eq_true rfl, Nat.le_of_ble_eq_true rfl⟩ hH rfl rfl (Nat.le_of_ble_eq_true rfl) dJ0_checkIndex_df160_5 (fun H locs hH hS => ?_)
    refine lv_pop hx hb dJ0_checkIndex_df160_8 rfl ?_
    exact x_vret hx hb hr hlocks hS dJ0_checkIndex_df160_9 hH
/-- a string that the environment knows: the object K, the bytes V -/
def kS (g : xG) (L : Nat) (bs : List Int32) (K V : Nat) : Prop := ∀ (s : State) (H : Heap), xE g s H → vk_S 1 [L] [bs] (fun _ => K) (fun _ => V) (gA g) s H
set_option maxRecDepth 100000 in
theorem c_lat (l : Launch) (g : xG) (dm : List Nat → Prop) (I : xI) (F : xF) (n : Nat) {L K V : Nat} {bs : List Int32} (hk : kS g L bs K V) : xM l yJ0_isLatin1_aae02 (xws yJ0_isLatin1_aae02 cJ0_isLatin1_aae02 1 (some FieldType.boolean)) 1 12 g [.ref K] (xR g dm I F n) (some (.int 1)) (xR g dm I F n) 0 0 := by
  refine xM.of (by decide) (Nat.le_of_ble_eq_true rfl) ?_
  intro P_ e_ s m_ bl_ mt_ cd_ ls hx hb hr hown hlocks hml hnm hE hK hts hH hS hl
  have hl : lv_has ls 1 [(0, .ref K)] := hl
  have hq := (hk _ _ hE).1 0 (by omega)
  refine va_gets hx hb hE.e2.2.1 hS (own := "java/lang/String") hown (hts _ tw806) (fun _ h => h) dJ0_isLatin1_aae02_0 ?_
  refine lv_if_eq (tgt := 17) hx hb dJ0_isLatin1_aae02_3 (by decide) (fun q => absurd q (by decide)) (fun _ => ?_)
  refine lv_aload_n hx hb dJ0_isLatin1_aae02_6 rfl (lv_at hl 0 rfl) ?_
  refine vk_getf hx hb hq.2.1 hS (own := "java/lang/String") hown (hts _ tw856) (fun _ h => h) dJ0_isLatin1_aae02_7 ?_
  refine lv_if_ne (tgt := 17) hx hb dJ0_isLatin1_aae02_10 (by decide) (fun q => absurd rfl q) (fun _ => ?_)
  refine lv_iconst (v := 1) hx hb dJ0_isLatin1_aae02_13 (by decide) ?_
  refine lv_goto (tgt := 18) hx hb dJ0_isLatin1_aae02_14 (by decide) ?_
  exact x_zret hx hb hr hlocks hS dJ0_isLatin1_aae02_18 rfl rfl hH
set_option maxRecDepth 100000 in
theorem c_lch (l : Launch) (g : xG) (dm : List Nat → Prop) (I : xI) (F : xF) (n : Nat) {L K V : Nat} {bs : List Int32} (hk : kS g L bs K V) (hL : L < 100) (j : Nat) (hj : j < L) {b : Int32} (hb0 : bs.getD j 0 = b) (hb1 : ((b &&& 255).toUInt32 % 65536).toInt32 = b) (hb2 : narrow .char (.int b) = .int b) : xM l yJ1_charAt_3b067 (xws yJ1_charAt_3b067 cJ1_charAt_3b067 2 (some FieldType.char)) 3 55 g [.ref V, .int (nI j)] (xR g dm I F n) (some (.int b)) (xR g dm I F n) 0 0 := by
  refine xM.of (by decide) (Nat.le_of_ble_eq_true rfl) ?_
  intro P_ e_ s m_ bl_ mt_ cd_ ls hx hb hr hown hlocks hml hnm hE hK hts hH hS hl
  have hl : lv_has ls 2 [(0, .ref V), (1, .int (nI j))] := hl
  have hT := ((hk _ _ hE).1 0 (by omega)).2.2.2
  refine lv_iload_n hx hb dJ1_charAt_3b067_0 rfl (lv_at hl 1 rfl) ?_
  refine lv_aload_n hx hb dJ1_charAt_3b067_1 rfl (lv_at hl 0 rfl) ?_
  refine va_tlen hx hb hT hS (v := nI L) rfl dJ1_charAt_3b067_2 ?_
  refine x_S0 (own := "java/lang/StringLatin1") hx hb hml hown hE hS hl.1 cyJ0_checkIndex_df160 tw811 (c_sck l g dm I F n j L hj (by omega)) ⟨Nat.le_of_ble_eq_true rfl, Nat.le_of_ble_eq_true rfl⟩ ⟨Nat.le_of_ble_eq_true rfl, Nat.le_of_ble_eq_true rfl⟩ hH rfl rfl (Nat.le_of_ble_eq_true rfl) dJ1_charAt_3b067_3 (fun H locs hH hS => ?_)
  refine lv_aload_n hx hb dJ1_charAt_3b067_6 rfl (lv_at hl 0 rfl) ?_
  refine lv_iload_n hx hb dJ1_charAt_3b067_7 rfl (lv_at hl 1 rfl) ?_
  obtain ⟨q1, q2⟩ := x_in (i := nI j) (j := j) (L := L) rfl hj (by omega)
  refine va_tb hx hb hT hS q1 (v := .int b) (by rw [q2]; exact congrArg Value.int hb0) dJ1_charAt_3b067_8 ?_
  refine lv_sipush (v := 255) hx hb dJ1_charAt_3b067_9 (by decide) ?_
  refine lv_iand hx hb dJ1_charAt_3b067_12 ?_
  refine lv_i2c (v := b) hx hb dJ1_charAt_3b067_13 hb1 ?_
  exact x_zret hx hb hr hlocks hS dJ1_charAt_3b067_14 hb2 rfl hH
set_option maxRecDepth 100000 in
theorem c_charAt (l : Launch) (g : xG) (dm : List Nat → Prop) (I : xI) (F : xF) (n : Nat) {L K V : Nat} {bs : List Int32} (hk : kS g L bs K V) (hL : L < 100) (j : Nat) (hj : j < L) {b : Int32} (hb0 : bs.getD j 0 = b) (hb1 : ((b &&& 255).toUInt32 % 65536).toInt32 = b) (hb2 : narrow .char (.int b) = .int b) : xM l yJ0_charAt_5068e (xws yJ0_charAt_5068e cJ0_charAt_5068e 2 (some FieldType.char)) 4 76 g [.ref K, .int (nI j)] (xR g dm I F n) (some (.int b)) (xR g dm I F n) 0 0 := by
  refine xM.of (by decide) (Nat.le_of_ble_eq_true rfl) ?_
  intro P_ e_ s m_ bl_ mt_ cd_ ls hx hb hr hown hlocks hml hnm hE hK hts hH hS hl
  have hl : lv_has ls 2 [(0, .ref K), (1, .int (nI j))] := hl
  have hq := (hk _ _ hE).1 0 (by omega)
  refine lv_aload_n hx hb dJ0_charAt_5068e_0 rfl (lv_at hl 0 rfl) ?_
  refine x_V1 (own := "java/lang/String") hx hb hml hown hE hS hl.1 cyJ0_isLatin1_aae02 tw802 (c_lat l g dm I F n hk) ⟨Nat.le_of_ble_eq_true rfl, Nat.le_of_ble_eq_true rfl⟩ ⟨Nat.le_of_ble_eq_true rfl, Nat.le_of_ble_eq_true rfl⟩ (vk_recv (hk _ _ hE) (i := 0) (by omega) hS) hH rfl rfl (Nat.le_of_ble_eq_true rfl) dJ0_charAt_5068e_1 (fun H locs hH hS => ?_)
  refine lv_if_eq (tgt := 16) hx hb dJ0_charAt_5068e_4 (by decide) (fun q => absurd q (by decide)) (fun _ => ?_)
  refine lv_aload_n hx hb dJ0_charAt_5068e_7 rfl (lv_at hl 0 rfl) ?_
  refine vk_getf hx hb hq.2.2.1 hS (own := "java/lang/String") hown (hts _ tw857) (fun _ h => h) dJ0_charAt_5068e_8 ?_
  refine lv_iload_n hx hb dJ0_charAt_5068e_11 rfl (lv_at hl 1 rfl) ?_
  refine x_S1 (own := "java/lang/String") hx hb hml hown hE hS hl.1 cyJ1_charAt_3b067 tw808 (c_lch l g dm I F n hk hL j hj hb0 hb1 hb2) ⟨Nat.le_of_ble_eq_true rfl, Nat.le_of_ble_eq_true rfl⟩ ⟨Nat.le_of_ble_eq_true rfl, Nat.le_of_ble_eq_true rfl⟩ hH rfl rfl (Nat.le_of_ble_eq_true rfl) dJ0_charAt_5068e_12 (fun H locs hH hS => ?_)
  exact x_zret hx hb hr hlocks hS dJ0_charAt_5068e_15 hb2 rfl hH
def st1 : List Int32 := [115, 116, 116, 109]
def st2 : List Int32 := [100, 108, 101, 99, 116]
theorem kS1 (g : xG) : kS g 4 st1 (gK1 g) (gV1 g) := fun s H hE => hE.e2.2.2.2.1.1
theorem kS2 (g : xG) : kS g 5 st2 (gK2 g) (gV2 g) := fun s H hE => hE.e2.2.2.2.2.1.1
theorem c_ch1 (l : Launch) (g : xG) (dm : List Nat → Prop) (I : xI) (F : xF) (n j : Nat) (hj : j < 4) : xM l yJ0_charAt_5068e (xws yJ0_charAt_5068e cJ0_charAt_5068e 2 (some FieldType.char)) 4 76 g [.ref (gK1 g), .int (nI j)] (xR g dm I F n) (some (.int (st1.getD j 0))) (xR g dm I F n) 0 0 := by
  rcases (show j = 0 ∨ j = 1 ∨ j = 2 ∨ j = 3 by omega) with rfl | rfl | rfl | rfl <;> exact c_charAt l g dm I F n (kS1 g) (by omega) _ (by omega) rfl (by decide +kernel) (by decide +kernel)
theorem c_ch2 (l : Launch) (g : xG) (dm : List Nat → Prop) (I : xI) (F : xF) (n j : Nat) (hj : j < 5) : xM l yJ0_charAt_5068e (xws yJ0_charAt_5068e cJ0_charAt_5068e 2 (some FieldType.char)) 4 76 g [.ref (gK2 g), .int (nI j)] (xR g dm I F n) (some (.int (st2.getD j 0))) (xR g dm I F n) 0 0 := by
  rcases (show j = 0 ∨ j = 1 ∨ j = 2 ∨ j = 3 ∨ j = 4 by omega) with rfl | rfl | rfl | rfl | rfl <;> exact c_charAt l g dm I F n (kS2 g) (by omega) _ (by omega) rfl (by decide +kernel) (by decide +kernel)
