/-! CONTRACTS: the end of a step, the rules -/
def sT (P : Nat → Nat → Int32) (X : xX) (j : Nat) (v : Int32) (i : Nat) : (Nat → Int32) × (Nat → Bool) := sFins P (j + 1) (i - (j + 1)) (fun k => if k = j then v else X 2 k, fun k => decide (k = j))
def sTX (P : Nat → Nat → Int32) (X : xX) (j : Nat) (v : Int32) (i : Nat) : xX := fun f => if f = 2 then (sT P X j v i).1 else X f
theorem sT_0 (P : Nat → Nat → Int32) (X : xX) (j : Nat) (v : Int32) : sT P X j v (j + 1) = (fun k => if k = j then v else X 2 k, fun k => decide (k = j)) := by simp [sT, sFins]
theorem sT_s (P : Nat → Nat → Int32) (X : xX) {j i : Nat} (v : Int32) (h : j + 1 ≤ i) : sT P X j v (i + 1) = sFin P i (sT P X j v i) := by
  unfold sT
  rw [show i + 1 - (j + 1) = (i - (j + 1)) + 1 by omega]
  show sFin P (j + 1 + (i - (j + 1))) _ = _
  rw [show j + 1 + (i - (j + 1)) = i by omega]
theorem sTX_0 (P : Nat → Nat → Int32) (X : xX) (j : Nat) (v : Int32) : sTX P X j v (j + 1) = up2 X 2 j v := by
  funext f k
  unfold sTX
  rw [sT_0]
  by_cases e : f = 2
  · subst e; by_cases e2 : k = j <;> simp [up2, e2]
  · simp [up2, e]
theorem sT_no {P : Nat → Nat → Int32} {X : xX} {j i : Nat} {v : Int32} (h : j + 1 ≤ i) (hn : ¬ (P i 1 ≠ -1 ∧ (sT P X j v i).2 (P i 1).toNatClampNeg = true ∧ ((sT P X j v i).1 i = 105 ∨ (sT P X j v i).1 i = 97))) : sT P X j v (i + 1) = sT P X j v i := by
  rw [sT_s _ _ _ h, sFin, if_neg hn]
theorem sT_yes {P : Nat → Nat → Int32} {X : xX} {j i : Nat} {v : Int32} (h : j + 1 ≤ i) (hn : P i 1 ≠ -1 ∧ (sT P X j v i).2 (P i 1).toNatClampNeg = true ∧ ((sT P X j v i).1 i = 105 ∨ (sT P X j v i).1 i = 97)) : sT P X j v (i + 1) = (fun k => if k = i then 120 else (sT P X j v i).1 k, fun k => if k = i then true else (sT P X j v i).2 k) := by
  rw [sT_s _ _ _ h, sFin, if_pos hn]
theorem sTX_no {P : Nat → Nat → Int32} {X Y : xX} {j i : Nat} {v : Int32} (h : sT P X j v (i + 1) = sT P X j v i) (hY : Y = sTX P X j v i) : Y = sTX P X j v (i + 1) := by unfold sTX; rw [h]; exact hY
theorem sTX_yes {P : Nat → Nat → Int32} {X Y : xX} {j i : Nat} {v : Int32} (h : sT P X j v (i + 1) = (fun k => if k = i then 120 else (sT P X j v i).1 k, fun k => if k = i then true else (sT P X j v i).2 k)) (hY : Y = sTX P X j v i) : up2 Y 2 i 120 = sTX P X j v (i + 1) := by
  funext f k
  rw [hY]
  unfold sTX
  rw [h]
  by_cases e : f = 2
  · subst e; by_cases e2 : k = i <;> simp [up2, e2]
  · simp [up2, e]
theorem mk_one : ∀ q, q < 8 → (1 : Int32) <<< (nI q &&& 31) = nI (2 ^ q) ∧ 2 ^ q < 256 := by decide +kernel
theorem mk_t0 : ∀ m, m < 256 → ∀ q, q < 8 → (nI m >>> (nI q &&& 31)) &&& 1 = b01 (m.testBit q) := by decide +kernel
theorem mk_o0 : ∀ m, m < 256 → ∀ q, q < 8 → nI m ||| nI (2 ^ q) = nI (m ||| 2 ^ q) ∧ m ||| 2 ^ q < 256 := by decide +kernel
theorem mk_or {m q : Nat} (hm : m < 256) (hq : q < 8) : nI m ||| ((1 : Int32) <<< (nI q &&& 31)) = nI (m ||| 2 ^ q) := by rw [(mk_one q hq).1]; exact (mk_o0 m hm q hq).1
theorem mk_bit {m i q : Nat} {D : Nat → Bool} (h : D q = m.testBit q) : (if q = i then true else D q) = (m ||| 2 ^ i).testBit q := by
  rw [Nat.testBit_or, Nat.testBit_two_pow]
  by_cases e : q = i
  · subst e; simp
  · simp [e, h, Ne.symm e]
theorem b01_ne0 {b : Bool} (h : ¬ b01 b = 0) : b = true := by
  cases b
  · exact absurd rfl h
  · rfl
theorem xCh.X0 {X : xX} (h : xCh X) {Y : xX} (e : ∀ k, Y 2 k = X 2 k) : xCh Y := fun k => by rw [e]; exact h k
set_option maxHeartbeats 1000000 in
set_option maxRecDepth 100000 in
theorem c_X0_finish (l : Launch) (g : xG) (h : xS) (I : xI) (n c : Nat) (X : xX) (hc : c < sNc h ∨ c = 4) (p : Nat) (hp : sPl h c = p) (hpp : p < sNp h) (hW : xWp h I p) (j : Nat) (hj : j < sSz h p) (v : Int32) (hv : narrow .char (.int v) = .int v) (hch : xCh X) : xM l yX0_finish (xws yX0_finish cX0_finish 6 none) 2 34 g [.ref (ga g [11, c, 0]), .int (nI j), .int v] (xR g (xD h) (sX I c X) (xFh h) n) none (xR g (xD h) (sX I c (sEnd (vP I p) (sSz h p) X j v)) (xFh h) n) 0 0 := by
  refine xM.of (by decide) (Nat.le_of_ble_eq_true rfl) ?_
  intro P_ e_ s m_ bl_ mt_ cd_ ls hx hb hr hown hlocks hml hnm hE hK hts hH hS hl
  have hl : lv_has ls 6 [(0, .ref (ga g [11, c, 0])), (1, .int (nI j)), (2, .int v)] := hl
  have h8 := hW.1
  refine lv_aload_n hx hb dX0_finish_0 rfl (lv_at hl 0 rfl) ?_
  refine lv_iload_n hx hb dX0_finish_1 rfl (lv_at hl 1 rfl) ?_
  refine lv_iload_n hx hb dX0_finish_2 rfl (lv_at hl 2 rfl) ?_
  refine x_V0 hx hb hml hown hE hS hl.1 cyX0_putState tw513 (c_X0_putState l g h I n c X hc j v (by omega) hv) ⟨Nat.le_of_ble_eq_true rfl, Nat.le_of_ble_eq_true rfl⟩ ⟨Nat.le_of_ble_eq_true rfl, Nat.le_of_ble_eq_true rfl⟩ (x_recv hK hH (id := [11, c, 0]) (by first | trivial | (simp only [xD]; omega) | (simp [xD]; done) | (simp [xD]; omega)) (ci := 0) rfl (by decide) rfl) hH rfl rfl (Nat.le_of_ble_eq_true rfl) dX0_finish_3 (fun H locs hH hS => ?_)
  refine lv_iconst (v := 1) hx hb dX0_finish_6 (by decide) ?_
  refine lv_iload_n hx hb dX0_finish_7 rfl (lv_at hl 1 rfl) ?_
  refine lv_ishl hx hb dX0_finish_8 ?_
  rw [show (1 <<< ((nI j) &&& 31)) = (nI (2 ^ j)) from (mk_one j (by omega)).1]
  refine lv_istore_n (lv' := [(3, .int (nI (2 ^ j))), (0, .ref (ga g [11, c, 0])), (1, .int (nI j)), (2, .int v)]) hx hb dX0_finish_9 rfl hl (by decide) rfl (fun ls hl => ?_)
  refine lv_iload_n hx hb dX0_finish_10 rfl (lv_at hl 2 rfl) ?_
  refine lv_iconst (v := 1) hx hb dX0_finish_11 (by decide) ?_
  refine lv_iadd hx hb dX0_finish_12 ?_
  rw [show ((nI j) + 1) = (nI (j + 1)) from (nI_1 j)]
  refine lv_istore (lv' := [(4, .int (nI (j + 1))), (3, .int (nI (2 ^ j))), (0, .ref (ga g [11, c, 0])), (1, .int (nI j)), (2, .int v)]) hx hb dX0_finish_13 hl (by decide) rfl (fun ls hl => ?_)
  have L15 : ∀ (fu : Nat) (i : Nat) (mm : Nat) (Y : xX) (H : Heap) (locs : List Loc) (ls : Array Slot), (j + 1 ≤ i) → (i ≤ sSz h p) → (Y = sTX (vP I p) X j v i) → (mm < 256) → (∀ q : Nat, q < 8 → (sT (vP I p) X j v i).2 q = mm.testBit q) → (xCh Y) → sSz h p - i < fu → xR g (xD h) (sX I c Y) (xFh h) n H → va_S (gA g) s.heap H locs → lv_has ls 6 [(0, .ref (ga g [11, c, 0])), (1, .int (nI j)), (2, .int v), (3, .int (nI mm)), (4, .int (nI i))] → W P_ l e_ { frames := 2, cells := 0, slots := 0, locals := 34 } s m_ ([.ref (ga g [11, c, 0]), .int (nI j), .int v] : List Value).toArray bl_ mt_ cd_ H locs 0 0 (MQ bl_ (xQc g none (xR g (xD h) (sX I c (sEnd (vP I p) (sSz h p) X j v)) (xFh h) n)) ([.ref (ga g [11, c, 0]), .int (nI j), .int v] : List Value).toArray s 0 0 (gA g)) (F0 m_ 15 ls []) := by
    intro fu
    induction fu with
    | zero => intro i mm Y H locs ls hi1 hi2 hY hmm hm hcy hfu; exact absurd hfu (Nat.not_lt_zero _)
    | succ fu ih15 =>
      intro i mm Y H locs ls hi1 hi2 hY hmm hm hcy hfu hH hS hl
      refine lv_iload hx hb dX0_finish_15 (lv_at hl 4 rfl) ?_
      refine lv_aload_n hx hb dX0_finish_17 rfl (lv_at hl 0 rfl) ?_
      refine x_get (C := RX0) (T := TX0) (N := 11) (ci := 0) hx hb hts iu0 hown hK hH (id := [11, c, 0]) (by first | trivial | (simp only [xD]; omega) | (simp [xD]; done) | (simp [xD]; omega)) rfl rfl (by decide) 0 (by decide) (hts _ tw90) (fun _ h9 => h9) (sX_at _ _ _ _) (v := .ref (ga g [5, p])) (by rw [← hp]; rfl) dX0_finish_18 ?_
      refine x_get (C := RX4) (T := TX4) (N := 4) (ci := 4) hx hb hts iu4 hown hK hH (id := [5, p]) (by first | trivial | (simp only [xD]; omega) | (simp [xD]; done) | (simp [xD]; omega)) rfl rfl (by decide) 2 (by decide) (hts _ tw74) (fun _ h9 => h9) rfl (v := .int (nI (sSz h p))) (congrArg Value.int hW.2.2.1) dX0_finish_21 ?_
      refine lv_icmp_ge (tgt := 110) hx hb dX0_finish_24 (by decide) (fun c_24 => ?_) (fun c_24 => ?_)
      · skip
        have c_24 := (nI_leI (a := (sSz h p)) (b := i) (by omega) (by omega)).mp c_24
        exact x_vret hx hb hr hlocks hS dX0_finish_110 (by have e : sSz h p = i := (by omega); rw [show sEnd (vP I p) (sSz h p) X j v = Y from by rw [e, hY]; rfl]; exact hH)
      · skip
        have c_24 : ¬ _ := fun z_ => c_24 ((nI_leI (a := (sSz h p)) (b := i) (by omega) (by omega)).mpr z_)
        refine lv_aload_n hx hb dX0_finish_27 rfl (lv_at hl 0 rfl) ?_
        refine x_get (C := RX0) (T := TX0) (N := 11) (ci := 0) hx hb hts iu0 hown hK hH (id := [11, c, 0]) (by first | trivial | (simp only [xD]; omega) | (simp [xD]; done) | (simp [xD]; omega)) rfl rfl (by decide) 0 (by decide) (hts _ tw90) (fun _ h9 => h9) (sX_at _ _ _ _) (v := .ref (ga g [5, p])) (by rw [← hp]; rfl) dX0_finish_28 ?_
        refine lv_iload hx hb dX0_finish_31 (lv_at hl 4 rfl) ?_
        refine x_V1 hx hb hml hown hE hS hl.1 cyX4_stepAt tw517 (c_X4_stepAt l g h (sX I c Y) n p i hpp (by omega) hW.1 hW.2.2.1) ⟨Nat.le_of_ble_eq_true rfl, Nat.le_of_ble_eq_true rfl⟩ ⟨Nat.le_of_ble_eq_true rfl, Nat.le_of_ble_eq_true rfl⟩ (x_recv hK hH (id := [5, p]) (by first | trivial | (simp only [xD]; omega) | (simp [xD]; done) | (simp [xD]; omega)) (ci := 4) rfl (by decide) rfl) hH rfl rfl (Nat.le_of_ble_eq_true rfl) dX0_finish_33 (fun H locs hH hS => ?_)
        refine lv_astore (lv' := [(5, .ref (ga g [7, p, i])), (0, .ref (ga g [11, c, 0])), (1, .int (nI j)), (2, .int v), (3, .int (nI mm)), (4, .int (nI i))]) hx hb dX0_finish_36 hl (by decide) rfl (fun ls hl => ?_)
        refine lv_aload hx hb dX0_finish_38 (lv_at hl 0 rfl) ?_
        refine lv_ifnull hx hb dX0_finish_40 ?_
        refine lv_aload hx hb dX0_finish_43 (lv_at hl 0 rfl) ?_
        refine x_get (C := RX5) (T := TX5) (N := 7) (ci := 5) hx hb hts iu5 hown hK hH (id := [7, p, i]) (by first | trivial | (simp only [xD]; omega) | (simp [xD]; done) | (simp [xD]; omega)) rfl rfl (by decide) 1 (by decide) (hts _ tw329) (fun _ h9 => h9) rfl (v := .int (I [7, p, i] 1)) rfl dX0_finish_45 ?_
        refine lv_iconst (v := (-1)) hx hb dX0_finish_48 (by decide) ?_
        refine lv_icmp_eq (tgt := 104) hx hb dX0_finish_49 (by decide) (fun c_49 => ?_) (fun c_49 => ?_)
        · skip
          refine lv_iinc (v := (nI (i + 1))) (lv' := [(4, .int (nI (i + 1))), (5, .ref (ga g [7, p, i])), (0, .ref (ga g [11, c, 0])), (1, .int (nI j)), (2, .int v), (3, .int (nI mm))]) hx hb dX0_finish_104 hl (k := 5) rfl (by first | rfl | exact nI_1 _ | exact nI_add _ _) (by decide) rfl (fun ls hl => ?_)
          refine lv_goto (tgt := 15) hx hb dX0_finish_107 (by decide) ?_
          exact ih15 (i + 1) mm Y _ _ _ (by omega) (by omega) (sTX_no (sT_no hi1 (fun z_ => z_.1 c_49)) hY) hmm (fun q2 hq2 => by rw [(sT_no hi1 (fun z_ => z_.1 c_49))]; exact hm q2 hq2) hcy (by omega) hH hS (lv_sub hl [2, 3, 4, 5, 0] rfl)
        · skip
          obtain ⟨q, hq, h1, -⟩ := (hW.2.2.2 i (by omega)).2.1.resolve_left c_49
          have hcl : (vP I p i 1).toNatClampNeg = q := by rw [show vP I p i 1 = nI q from h1]; exact nI_clamp (by omega)
          refine lv_iload_n hx hb dX0_finish_52 rfl (lv_at hl 4 rfl) ?_
          refine lv_aload hx hb dX0_finish_53 (lv_at hl 0 rfl) ?_
          refine x_get (C := RX5) (T := TX5) (N := 7) (ci := 5) hx hb hts iu5 hown hK hH (id := [7, p, i]) (by first | trivial | (simp only [xD]; omega) | (simp [xD]; done) | (simp [xD]; omega)) rfl rfl (by decide) 1 (by decide) (hts _ tw329) (fun _ h9 => h9) rfl (v := .int (nI q)) (congrArg Value.int h1) dX0_finish_55 ?_
          refine lv_ishr hx hb dX0_finish_58 ?_
          refine lv_iconst (v := 1) hx hb dX0_finish_59 (by decide) ?_
          refine lv_iand hx hb dX0_finish_60 ?_
          rw [show (((nI mm) >>> ((nI q) &&& 31)) &&& 1) = (b01 (mm.testBit q)) from (mk_t0 mm hmm q (by omega))]
          refine lv_if_ne (tgt := 67) hx hb dX0_finish_61 (by decide) (fun c_61 => ?_) (fun c_61 => ?_)
          · skip
            refine lv_aload_n hx hb dX0_finish_67 rfl (lv_at hl 1 rfl) ?_
            refine lv_iload hx hb dX0_finish_68 (lv_at hl 5 rfl) ?_
            refine x_V1 hx hb hml hown hE hS hl.1 cyX0_stateOf tw518 (c_X0_stateOf l g h I n c Y hc i (by omega) hcy) ⟨Nat.le_of_ble_eq_true rfl, Nat.le_of_ble_eq_true rfl⟩ ⟨Nat.le_of_ble_eq_true rfl, Nat.le_of_ble_eq_true rfl⟩ (x_recv hK hH (id := [11, c, 0]) (by first | trivial | (simp only [xD]; omega) | (simp [xD]; done) | (simp [xD]; omega)) (ci := 0) rfl (by decide) rfl) hH rfl rfl (Nat.le_of_ble_eq_true rfl) dX0_finish_70 (fun H locs hH hS => ?_)
            refine lv_bipush (v := 105) hx hb dX0_finish_73 (by decide) ?_
            refine lv_icmp_eq (tgt := 89) hx hb dX0_finish_75 (by decide) (fun c_75 => ?_) (fun c_75 => ?_)
            · skip
              refine lv_aload_n hx hb dX0_finish_89 rfl (lv_at hl 1 rfl) ?_
              refine lv_iload hx hb dX0_finish_90 (lv_at hl 5 rfl) ?_
              refine lv_bipush (v := 120) hx hb dX0_finish_92 (by decide) ?_
              refine x_V0 hx hb hml hown hE hS hl.1 cyX0_putState tw513 (c_X0_putState l g h I n c Y hc i 120 (by omega) (by rfl)) ⟨Nat.le_of_ble_eq_true rfl, Nat.le_of_ble_eq_true rfl⟩ ⟨Nat.le_of_ble_eq_true rfl, Nat.le_of_ble_eq_true rfl⟩ (x_recv hK hH (id := [11, c, 0]) (by first | trivial | (simp only [xD]; omega) | (simp [xD]; done) | (simp [xD]; omega)) (ci := 0) rfl (by decide) rfl) hH rfl rfl (Nat.le_of_ble_eq_true rfl) dX0_finish_94 (fun H locs hH hS => ?_)
              refine lv_iload_n hx hb dX0_finish_97 rfl (lv_at hl 4 rfl) ?_
              refine lv_iconst (v := 1) hx hb dX0_finish_98 (by decide) ?_
              refine lv_iload hx hb dX0_finish_99 (lv_at hl 5 rfl) ?_
              refine lv_ishl hx hb dX0_finish_101 ?_
              refine lv_ior hx hb dX0_finish_102 ?_
              rw [show ((nI mm) ||| (1 <<< ((nI i) &&& 31))) = (nI (mm ||| 2 ^ i)) from (mk_or hmm (by omega))]
              refine lv_istore_n (lv' := [(3, .int (nI (mm ||| 2 ^ i))), (5, .ref (ga g [7, p, i])), (0, .ref (ga g [11, c, 0])), (1, .int (nI j)), (2, .int v), (4, .int (nI i))]) hx hb dX0_finish_103 rfl hl (by decide) rfl (fun ls hl => ?_)
              refine lv_iinc (v := (nI (i + 1))) (lv' := [(4, .int (nI (i + 1))), (3, .int (nI (mm ||| 2 ^ i))), (5, .ref (ga g [7, p, i])), (0, .ref (ga g [11, c, 0])), (1, .int (nI j)), (2, .int v)]) hx hb dX0_finish_104 hl (k := 5) rfl (by first | rfl | exact nI_1 _ | exact nI_add _ _) (by decide) rfl (fun ls hl => ?_)
              refine lv_goto (tgt := 15) hx hb dX0_finish_107 (by decide) ?_
              exact ih15 (i + 1) ((mm ||| 2 ^ i)) ((up2 Y 2 i 120)) _ _ _ (by omega) (by omega) (sTX_yes (sT_yes hi1 ⟨c_49, (by rw [hcl, hm q (by omega)]; exact b01_ne0 c_61), (by rw [(show (sT (vP I p) X j v i).1 i = Y 2 i from by rw [hY]; rfl)]; exact Or.inl c_75)⟩) hY) (mk_o0 mm hmm i (by omega)).2 (fun q2 hq2 => by rw [(sT_yes hi1 ⟨c_49, (by rw [hcl, hm q (by omega)]; exact b01_ne0 c_61), (by rw [(show (sT (vP I p) X j v i).1 i = Y 2 i from by rw [hY]; rfl)]; exact Or.inl c_75)⟩)]; exact mk_bit (hm q2 hq2)) (hcy.up i 120 rfl) (by omega) hH hS (lv_sub hl [3, 4, 5, 1, 0] rfl)
            · skip
              refine lv_aload_n hx hb dX0_finish_78 rfl (lv_at hl 1 rfl) ?_
              refine lv_iload hx hb dX0_finish_79 (lv_at hl 5 rfl) ?_
              refine x_V1 hx hb hml hown hE hS hl.1 cyX0_stateOf tw518 (c_X0_stateOf l g h I n c Y hc i (by omega) hcy) ⟨Nat.le_of_ble_eq_true rfl, Nat.le_of_ble_eq_true rfl⟩ ⟨Nat.le_of_ble_eq_true rfl, Nat.le_of_ble_eq_true rfl⟩ (x_recv hK hH (id := [11, c, 0]) (by first | trivial | (simp only [xD]; omega) | (simp [xD]; done) | (simp [xD]; omega)) (ci := 0) rfl (by decide) rfl) hH rfl rfl (Nat.le_of_ble_eq_true rfl) dX0_finish_81 (fun H locs hH hS => ?_)
              refine lv_bipush (v := 97) hx hb dX0_finish_84 (by decide) ?_
              refine lv_icmp_ne (tgt := 104) hx hb dX0_finish_86 (by decide) (fun c_86 => ?_) (fun c_86 => ?_)
              · skip
                refine lv_iinc (v := (nI (i + 1))) (lv' := [(4, .int (nI (i + 1))), (5, .ref (ga g [7, p, i])), (0, .ref (ga g [11, c, 0])), (1, .int (nI j)), (2, .int v), (3, .int (nI mm))]) hx hb dX0_finish_104 hl (k := 5) rfl (by first | rfl | exact nI_1 _ | exact nI_add _ _) (by decide) rfl (fun ls hl => ?_)
                refine lv_goto (tgt := 15) hx hb dX0_finish_107 (by decide) ?_
                exact ih15 (i + 1) mm Y _ _ _ (by omega) (by omega) (sTX_no (sT_no hi1 (fun z_ => by have z2 := z_.2.2; rw [(show (sT (vP I p) X j v i).1 i = Y 2 i from by rw [hY]; rfl)] at z2; rcases z2 with z2 | z2; exact c_75 z2; exact c_86 z2)) hY) hmm (fun q2 hq2 => by rw [(sT_no hi1 (fun z_ => by have z2 := z_.2.2; rw [(show (sT (vP I p) X j v i).1 i = Y 2 i from by rw [hY]; rfl)] at z2; rcases z2 with z2 | z2; exact c_75 z2; exact c_86 z2))]; exact hm q2 hq2) hcy (by omega) hH hS (lv_sub hl [2, 3, 4, 5, 0] rfl)
              · skip
                refine lv_aload_n hx hb dX0_finish_89 rfl (lv_at hl 1 rfl) ?_
                refine lv_iload hx hb dX0_finish_90 (lv_at hl 5 rfl) ?_
                refine lv_bipush (v := 120) hx hb dX0_finish_92 (by decide) ?_
                refine x_V0 hx hb hml hown hE hS hl.1 cyX0_putState tw513 (c_X0_putState l g h I n c Y hc i 120 (by omega) (by rfl)) ⟨Nat.le_of_ble_eq_true rfl, Nat.le_of_ble_eq_true rfl⟩ ⟨Nat.le_of_ble_eq_true rfl, Nat.le_of_ble_eq_true rfl⟩ (x_recv hK hH (id := [11, c, 0]) (by first | trivial | (simp only [xD]; omega) | (simp [xD]; done) | (simp [xD]; omega)) (ci := 0) rfl (by decide) rfl) hH rfl rfl (Nat.le_of_ble_eq_true rfl) dX0_finish_94 (fun H locs hH hS => ?_)
                refine lv_iload_n hx hb dX0_finish_97 rfl (lv_at hl 4 rfl) ?_
                refine lv_iconst (v := 1) hx hb dX0_finish_98 (by decide) ?_
                refine lv_iload hx hb dX0_finish_99 (lv_at hl 5 rfl) ?_
                refine lv_ishl hx hb dX0_finish_101 ?_
                refine lv_ior hx hb dX0_finish_102 ?_
                rw [show ((nI mm) ||| (1 <<< ((nI i) &&& 31))) = (nI (mm ||| 2 ^ i)) from (mk_or hmm (by omega))]
                refine lv_istore_n (lv' := [(3, .int (nI (mm ||| 2 ^ i))), (5, .ref (ga g [7, p, i])), (0, .ref (ga g [11, c, 0])), (1, .int (nI j)), (2, .int v), (4, .int (nI i))]) hx hb dX0_finish_103 rfl hl (by decide) rfl (fun ls hl => ?_)
                refine lv_iinc (v := (nI (i + 1))) (lv' := [(4, .int (nI (i + 1))), (3, .int (nI (mm ||| 2 ^ i))), (5, .ref (ga g [7, p, i])), (0, .ref (ga g [11, c, 0])), (1, .int (nI j)), (2, .int v)]) hx hb dX0_finish_104 hl (k := 5) rfl (by first | rfl | exact nI_1 _ | exact nI_add _ _) (by decide) rfl (fun ls hl => ?_)
                refine lv_goto (tgt := 15) hx hb dX0_finish_107 (by decide) ?_
                exact ih15 (i + 1) ((mm ||| 2 ^ i)) ((up2 Y 2 i 120)) _ _ _ (by omega) (by omega) (sTX_yes (sT_yes hi1 ⟨c_49, (by rw [hcl, hm q (by omega)]; exact b01_ne0 c_61), (by rw [(show (sT (vP I p) X j v i).1 i = Y 2 i from by rw [hY]; rfl)]; exact Or.inr c_86)⟩) hY) (mk_o0 mm hmm i (by omega)).2 (fun q2 hq2 => by rw [(sT_yes hi1 ⟨c_49, (by rw [hcl, hm q (by omega)]; exact b01_ne0 c_61), (by rw [(show (sT (vP I p) X j v i).1 i = Y 2 i from by rw [hY]; rfl)]; exact Or.inr c_86)⟩)]; exact mk_bit (hm q2 hq2)) (hcy.up i 120 rfl) (by omega) hH hS (lv_sub hl [3, 4, 5, 1, 0] rfl)
          · skip
            refine lv_goto (tgt := 104) hx hb dX0_finish_64 (by decide) ?_
            refine lv_iinc (v := (nI (i + 1))) (lv' := [(4, .int (nI (i + 1))), (5, .ref (ga g [7, p, i])), (0, .ref (ga g [11, c, 0])), (1, .int (nI j)), (2, .int v), (3, .int (nI mm))]) hx hb dX0_finish_104 hl (k := 5) rfl (by first | rfl | exact nI_1 _ | exact nI_add _ _) (by decide) rfl (fun ls hl => ?_)
            refine lv_goto (tgt := 15) hx hb dX0_finish_107 (by decide) ?_
            exact ih15 (i + 1) mm Y _ _ _ (by omega) (by omega) (sTX_no (sT_no hi1 (fun z_ => by have z2 := z_.2.1; rw [hcl, hm q (by omega), (b01_eq0 _).mp c_61] at z2; cases z2)) hY) hmm (fun q2 hq2 => by rw [(sT_no hi1 (fun z_ => by have z2 := z_.2.1; rw [hcl, hm q (by omega), (b01_eq0 _).mp c_61] at z2; cases z2))]; exact hm q2 hq2) hcy (by omega) hH hS (lv_sub hl [2, 3, 4, 5, 0] rfl)
  exact L15 _ (j + 1) (2 ^ j) (up2 X 2 j v) _ _ _ (Nat.le_refl _) (by omega) (sTX_0 _ _ _ _).symm (mk_one j (by omega)).2 (fun q hq => by rw [sT_0]; show decide (q = j) = _; rw [Nat.testBit_two_pow]; simp [eq_comm]) (hch.up j v hv) (Nat.lt_succ_self _) hH hS (lv_sub hl [2, 3, 4, 1, 0] rfl)

section RUL
variable {P : Nat → Nat → Int32} {C : Nat → Nat → Nat → Nat → Int32} {cn : Nat → Nat → Nat} {n : Nat} {X : xX} {j : Nat}
abbrev N1 (C : Nat → Nat → Nat → Nat → Int32) (cn : Nat → Nat → Nat) (X : xX) (j : Nat) : Prop := X 2 j = 97 ∧ sAny (C j 1) X (cn j 1) = true
abbrev N2 (P : Nat → Nat → Int32) (C : Nat → Nat → Nat → Nat → Int32) (cn : Nat → Nat → Nat) (X : xX) (j : Nat) : Prop := X 2 j = 105 ∧ sPar P X j = true ∧ (cn j 0 = 0 ∨ sAny (C j 0) X (cn j 0) = true)
abbrev N3 (P : Nat → Nat → Int32) (n : Nat) (X : xX) (j : Nat) : Prop := X 2 j = 97 ∧ P j 0 = 115 ∧ sHas P j n = true ∧ sDon P X j n = true
abbrev N4 (P : Nat → Nat → Int32) (C : Nat → Nat → Nat → Nat → Int32) (cn : Nat → Nat → Nat) (X : xX) (j : Nat) : Prop := X 2 j = 99 ∧ P j 0 = 109 ∧ ¬ P j 6 = 0 ∧ 0 < cn j 0 ∧ ¬ sAny (C j 0) X (cn j 0) = true
theorem sRul_1 (h : N1 C cn X j) : sRul P C cn n X j = (true, sEnd P n X j 120) := if_pos h
theorem sRul_2 (n1 : ¬ N1 C cn X j) (h : N2 P C cn X j) : sRul P C cn n X j = (true, up2 (up2 X 2 j (if P j 0 = 109 then 99 else 97)) 5 j (X 5 j + 1)) := by rw [sRul, if_neg n1, if_pos h]
theorem sRul_3 (n1 : ¬ N1 C cn X j) (n2 : ¬ N2 P C cn X j) (h : N3 P n X j) : sRul P C cn n X j = (true, sEnd P n X j 99) := by rw [sRul, if_neg n1, if_neg n2, if_pos h]
theorem sRul_4 (n1 : ¬ N1 C cn X j) (n2 : ¬ N2 P C cn X j) (n3 : ¬ N3 P n X j) (h : N4 P C cn X j) : sRul P C cn n X j = (true, up2 X 2 j 105) := by rw [sRul, if_neg n1, if_neg n2, if_neg n3, if_pos h]
theorem sRul_5 (n1 : ¬ N1 C cn X j) (n2 : ¬ N2 P C cn X j) (n3 : ¬ N3 P n X j) (n4 : ¬ N4 P C cn X j) : sRul P C cn n X j = (false, X) := by rw [sRul, if_neg n1, if_neg n2, if_neg n3, if_neg n4]
end RUL
set_option maxHeartbeats 1000000 in
set_option maxRecDepth 100000 in
theorem c_X0_applyRule (l : Launch) (g : xG) (h : xS) (I : xI) (n c : Nat) (X : xX) (hc : c < sNc h ∨ c = 4) (p : Nat) (hp : sPl h c = p) (hpp : p < sNp h) (hW : xWp h I p) (j : Nat) (hj : j < sSz h p) (hch : xCh X) : xM l yX0_applyRule (xws yX0_applyRule cX0_applyRule 4 (some FieldType.boolean)) 3 59 g [.ref (ga g [11, c, 0]), .int (nI j)] (xR g (xD h) (sX I c X) (xFh h) n) (some (.int (b01 (sRul (vP I p) (vC I p) (sCn h p) (sSz h p) X j).1))) (xR g (xD h) (sX I c (sRul (vP I p) (vC I p) (sCn h p) (sSz h p) X j).2) (xFh h) n) 0 0 := by
  refine xM.of (by decide) (Nat.le_of_ble_eq_true rfl) ?_
  intro P_ e_ s m_ bl_ mt_ cd_ ls hx hb hr hown hlocks hml hnm hE hK hts hH hS hl
  have hl : lv_has ls 4 [(0, .ref (ga g [11, c, 0])), (1, .int (nI j))] := hl
  have h8 := hW.1
  have hcn0 := ((hW.2.2.2 j hj).2.2 0 (by decide)).2.1
  refine lv_aload_n hx hb dX0_applyRule_0 rfl (lv_at hl 0 rfl) ?_
  refine x_get (C := RX0) (T := TX0) (N := 11) (ci := 0) hx hb hts iu0 hown hK hH (id := [11, c, 0]) (by first | trivial | (simp only [xD]; omega) | (simp [xD]; done) | (simp [xD]; omega)) rfl rfl (by decide) 0 (by decide) (hts _ tw90) (fun _ h9 => h9) (sX_at _ _ _ _) (v := .ref (ga g [5, p])) (by rw [← hp]; rfl) dX0_applyRule_1 ?_
  refine lv_iload_n hx hb dX0_applyRule_4 rfl (lv_at hl 1 rfl) ?_
  refine x_V1 hx hb hml hown hE hS hl.1 cyX4_stepAt tw517 (c_X4_stepAt l g h (sX I c X) n p j hpp (by omega) hW.1 hW.2.2.1) ⟨Nat.le_of_ble_eq_true rfl, Nat.le_of_ble_eq_true rfl⟩ ⟨Nat.le_of_ble_eq_true rfl, Nat.le_of_ble_eq_true rfl⟩ (x_recv hK hH (id := [5, p]) (by first | trivial | (simp only [xD]; omega) | (simp [xD]; done) | (simp [xD]; omega)) (ci := 4) rfl (by decide) rfl) hH rfl rfl (Nat.le_of_ble_eq_true rfl) dX0_applyRule_5 (fun H locs hH hS => ?_)
  refine lv_astore_n (lv' := [(2, .ref (ga g [7, p, j])), (0, .ref (ga g [11, c, 0])), (1, .int (nI j))]) hx hb dX0_applyRule_8 rfl hl (by decide) rfl (fun ls hl => ?_)
  refine lv_aload_n hx hb dX0_applyRule_9 rfl (lv_at hl 0 rfl) ?_
  refine lv_ifnonnull (tgt := 15) hx hb dX0_applyRule_10 (by decide) ?_
  refine lv_aload_n hx hb dX0_applyRule_15 rfl (lv_at hl 1 rfl) ?_
  refine lv_iload_n hx hb dX0_applyRule_16 rfl (lv_at hl 2 rfl) ?_
  refine x_V1 hx hb hml hown hE hS hl.1 cyX0_stateOf tw518 (c_X0_stateOf l g h I n c X hc j (by omega) hch) ⟨Nat.le_of_ble_eq_true rfl, Nat.le_of_ble_eq_true rfl⟩ ⟨Nat.le_of_ble_eq_true rfl, Nat.le_of_ble_eq_true rfl⟩ (x_recv hK hH (id := [11, c, 0]) (by first | trivial | (simp only [xD]; omega) | (simp [xD]; done) | (simp [xD]; omega)) (ci := 0) rfl (by decide) rfl) hH rfl rfl (Nat.le_of_ble_eq_true rfl) dX0_applyRule_17 (fun H locs hH hS => ?_)
  refine lv_istore_n (lv' := [(3, .int (X 2 j)), (2, .ref (ga g [7, p, j])), (0, .ref (ga g [11, c, 0])), (1, .int (nI j))]) hx hb dX0_applyRule_20 rfl hl (by decide) rfl (fun ls hl => ?_)
  have J177 : ∀ (H : Heap) (locs : List Loc), (¬ N1 (vC I p) (sCn h p) X j ∧ ¬ N2 (vP I p) (vC I p) (sCn h p) X j ∧ ¬ N3 (vP I p) (sSz h p) X j ∧ ¬ N4 (vP I p) (vC I p) (sCn h p) X j) → xR g (xD h) (sX I c X) (xFh h) n H → va_S (gA g) s.heap H locs → W P_ l e_ { frames := 3, cells := 0, slots := 0, locals := 59 } s m_ ([.ref (ga g [11, c, 0]), .int (nI j)] : List Value).toArray bl_ mt_ cd_ H locs 0 0 (MQ bl_ (xQc g (some (.int (b01 (sRul (vP I p) (vC I p) (sCn h p) (sSz h p) X j).1))) (xR g (xD h) (sX I c (sRul (vP I p) (vC I p) (sCn h p) (sSz h p) X j).2) (xFh h) n)) ([.ref (ga g [11, c, 0]), .int (nI j)] : List Value).toArray s 0 0 (gA g)) (F0 m_ 177 ls []) := by
    intro H locs hj177 hH hS
    obtain ⟨n1, n2, n3, n4⟩ := hj177
    refine lv_iconst (v := 0) hx hb dX0_applyRule_177 (by decide) ?_
    exact x_zret hx hb hr hlocks hS dX0_applyRule_178 rfl (by rw [sRul_5 n1 n2 n3 n4]; rfl) (by rw [sRul_5 n1 n2 n3 n4]; exact hH)
  have J125 : ∀ (H : Heap) (locs : List Loc), (¬ N1 (vC I p) (sCn h p) X j ∧ ¬ N2 (vP I p) (vC I p) (sCn h p) X j ∧ ¬ N3 (vP I p) (sSz h p) X j) → xR g (xD h) (sX I c X) (xFh h) n H → va_S (gA g) s.heap H locs → W P_ l e_ { frames := 3, cells := 0, slots := 0, locals := 59 } s m_ ([.ref (ga g [11, c, 0]), .int (nI j)] : List Value).toArray bl_ mt_ cd_ H locs 0 0 (MQ bl_ (xQc g (some (.int (b01 (sRul (vP I p) (vC I p) (sCn h p) (sSz h p) X j).1))) (xR g (xD h) (sX I c (sRul (vP I p) (vC I p) (sCn h p) (sSz h p) X j).2) (xFh h) n)) ([.ref (ga g [11, c, 0]), .int (nI j)] : List Value).toArray s 0 0 (gA g)) (F0 m_ 125 ls []) := by
    intro H locs hj125 hH hS
    obtain ⟨n1, n2, n3⟩ := hj125
    refine lv_iload_n hx hb dX0_applyRule_125 rfl (lv_at hl 0 rfl) ?_
    refine lv_bipush (v := 99) hx hb dX0_applyRule_126 (by decide) ?_
    refine lv_icmp_ne (tgt := 177) hx hb dX0_applyRule_128 (by decide) (fun c_128 => ?_) (fun c_128 => ?_)
    · skip
      exact J177 _ _ ⟨n1, n2, n3, (fun z_ => c_128 z_.1)⟩ hH hS
    · skip
      refine lv_aload_n hx hb dX0_applyRule_131 rfl (lv_at hl 1 rfl) ?_
      refine x_get (C := RX5) (T := TX5) (N := 7) (ci := 5) hx hb hts iu5 hown hK hH (id := [7, p, j]) (by first | trivial | (simp only [xD]; omega) | (simp [xD]; done) | (simp [xD]; omega)) rfl rfl (by decide) 0 (by decide) (hts _ tw327) (fun _ h9 => h9) rfl (v := .int (I [7, p, j] 0)) rfl dX0_applyRule_132 ?_
      refine lv_bipush (v := 109) hx hb dX0_applyRule_135 (by decide) ?_
      refine lv_icmp_ne (tgt := 177) hx hb dX0_applyRule_137 (by decide) (fun c_137 => ?_) (fun c_137 => ?_)
      · skip
        exact J177 _ _ ⟨n1, n2, n3, (fun z_ => c_137 z_.2.1)⟩ hH hS
      · skip
        refine lv_aload_n hx hb dX0_applyRule_140 rfl (lv_at hl 1 rfl) ?_
        refine x_get (C := RX5) (T := TX5) (N := 7) (ci := 5) hx hb hts iu5 hown hK hH (id := [7, p, j]) (by first | trivial | (simp only [xD]; omega) | (simp [xD]; done) | (simp [xD]; omega)) rfl rfl (by decide) 6 (by decide) (hts _ tw343) (fun _ h9 => h9) rfl (v := .int (I [7, p, j] 6)) rfl dX0_applyRule_141 ?_
        refine lv_if_eq (tgt := 177) hx hb dX0_applyRule_144 (by decide) (fun c_144 => ?_) (fun c_144 => ?_)
        · skip
          exact J177 _ _ ⟨n1, n2, n3, (fun z_ => z_.2.2.1 c_144)⟩ hH hS
        · skip
          refine lv_aload_n hx hb dX0_applyRule_147 rfl (lv_at hl 1 rfl) ?_
          refine x_get (C := RX5) (T := TX5) (N := 7) (ci := 5) hx hb hts iu5 hown hK hH (id := [7, p, j]) (by first | trivial | (simp only [xD]; omega) | (simp [xD]; done) | (simp [xD]; omega)) rfl rfl (by decide) 2 (by decide) (hts _ tw332) (fun _ h9 => h9) rfl (v := .ref (ga g [8, p, j, 0])) rfl dX0_applyRule_148 ?_
          refine x_get (C := RX2) (T := TX2) (N := 2) (ci := 2) hx hb hts iu2 hown hK hH (id := [8, p, j, 0]) (by first | trivial | (simp only [xD]; omega) | (simp [xD]; done) | (simp [xD]; omega)) rfl rfl (by decide) 1 (by decide) (hts _ tw317) (fun _ h9 => h9) rfl (v := .int (nI (sCn h p j 0))) (congrArg Value.int ((hW.2.2.2 j hj).2.2 0 (by decide)).1) dX0_applyRule_151 ?_
          refine lv_if_le (tgt := 177) hx hb dX0_applyRule_154 (by decide) (fun c_154 => ?_) (fun c_154 => ?_)
          · skip
            have c_154 := (nI_leI (a := (sCn h p j 0)) (b := 0) (by omega) (by omega)).mp c_154
            exact J177 _ _ ⟨n1, n2, n3, (fun z_ => by have z2 := z_.2.2.2.1; omega)⟩ hH hS
          · skip
            have c_154 : ¬ _ := fun z_ => c_154 ((nI_leI (a := (sCn h p j 0)) (b := 0) (by omega) (by omega)).mpr z_)
            refine lv_aload_n hx hb dX0_applyRule_157 rfl (lv_at hl 2 rfl) ?_
            refine lv_aload_n hx hb dX0_applyRule_158 rfl (lv_at hl 1 rfl) ?_
            refine x_get (C := RX5) (T := TX5) (N := 7) (ci := 5) hx hb hts iu5 hown hK hH (id := [7, p, j]) (by first | trivial | (simp only [xD]; omega) | (simp [xD]; done) | (simp [xD]; omega)) rfl rfl (by decide) 2 (by decide) (hts _ tw332) (fun _ h9 => h9) rfl (v := .ref (ga g [8, p, j, 0])) rfl dX0_applyRule_159 ?_
            refine x_V1 hx hb hml hown hE hS hl.1 cyX0_anyMet tw539 (c_X0_anyMet l g h I n c X hc p j 0 hpp (by omega) hW.1 (by decide) ((hW.2.2.2 j (by omega)).2.2 0 (by decide)).2.1 ((hW.2.2.2 j (by omega)).2.2 0 (by decide)).1 ((hW.2.2.2 j (by omega)).2.2 0 (by decide)).2.2) ⟨Nat.le_of_ble_eq_true rfl, Nat.le_of_ble_eq_true rfl⟩ ⟨Nat.le_of_ble_eq_true rfl, Nat.le_of_ble_eq_true rfl⟩ (x_recv hK hH (id := [11, c, 0]) (by first | trivial | (simp only [xD]; omega) | (simp [xD]; done) | (simp [xD]; omega)) (ci := 0) rfl (by decide) rfl) hH rfl rfl (Nat.le_of_ble_eq_true rfl) dX0_applyRule_162 (fun H locs hH hS => ?_)
            refine lv_if_ne (tgt := 177) hx hb dX0_applyRule_165 (by decide) (fun c_165 => ?_) (fun c_165 => ?_)
            · skip
              exact J177 _ _ ⟨n1, n2, n3, (fun z_ => z_.2.2.2.2 (b01_ne0 c_165))⟩ hH hS
            · skip
              refine lv_aload_n hx hb dX0_applyRule_168 rfl (lv_at hl 2 rfl) ?_
              refine lv_iload_n hx hb dX0_applyRule_169 rfl (lv_at hl 3 rfl) ?_
              refine lv_bipush (v := 105) hx hb dX0_applyRule_170 (by decide) ?_
              refine x_V0 hx hb hml hown hE hS hl.1 cyX0_putState tw513 (c_X0_putState l g h I n c X hc j 105 (by omega) (by rfl)) ⟨Nat.le_of_ble_eq_true rfl, Nat.le_of_ble_eq_true rfl⟩ ⟨Nat.le_of_ble_eq_true rfl, Nat.le_of_ble_eq_true rfl⟩ (x_recv hK hH (id := [11, c, 0]) (by first | trivial | (simp only [xD]; omega) | (simp [xD]; done) | (simp [xD]; omega)) (ci := 0) rfl (by decide) rfl) hH rfl rfl (Nat.le_of_ble_eq_true rfl) dX0_applyRule_172 (fun H locs hH hS => ?_)
              refine lv_iconst (v := 1) hx hb dX0_applyRule_175 (by decide) ?_
              exact x_zret hx hb hr hlocks hS dX0_applyRule_176 rfl (by rw [sRul_4 n1 n2 n3 ⟨c_128, c_137, c_144, (by omega), (fun z_ => by have z2 := (b01_eq0 _).mp c_165; rw [z_] at z2; cases z2)⟩]; rfl) (by rw [sRul_4 n1 n2 n3 ⟨c_128, c_137, c_144, (by omega), (fun z_ => by have z2 := (b01_eq0 _).mp c_165; rw [z_] at z2; cases z2)⟩]; exact hH)
  have J93 : ∀ (H : Heap) (locs : List Loc), (¬ N1 (vC I p) (sCn h p) X j ∧ ¬ N2 (vP I p) (vC I p) (sCn h p) X j) → xR g (xD h) (sX I c X) (xFh h) n H → va_S (gA g) s.heap H locs → W P_ l e_ { frames := 3, cells := 0, slots := 0, locals := 59 } s m_ ([.ref (ga g [11, c, 0]), .int (nI j)] : List Value).toArray bl_ mt_ cd_ H locs 0 0 (MQ bl_ (xQc g (some (.int (b01 (sRul (vP I p) (vC I p) (sCn h p) (sSz h p) X j).1))) (xR g (xD h) (sX I c (sRul (vP I p) (vC I p) (sCn h p) (sSz h p) X j).2) (xFh h) n)) ([.ref (ga g [11, c, 0]), .int (nI j)] : List Value).toArray s 0 0 (gA g)) (F0 m_ 93 ls []) := by
    intro H locs hj93 hH hS
    obtain ⟨n1, n2⟩ := hj93
    refine lv_iload_n hx hb dX0_applyRule_93 rfl (lv_at hl 0 rfl) ?_
    refine lv_bipush (v := 97) hx hb dX0_applyRule_94 (by decide) ?_
    refine lv_icmp_ne (tgt := 125) hx hb dX0_applyRule_96 (by decide) (fun c_96 => ?_) (fun c_96 => ?_)
    · skip
      exact J125 _ _ ⟨n1, n2, (fun z_ => c_96 z_.1)⟩ hH hS
    · skip
      refine lv_aload_n hx hb dX0_applyRule_99 rfl (lv_at hl 1 rfl) ?_
      refine x_get (C := RX5) (T := TX5) (N := 7) (ci := 5) hx hb hts iu5 hown hK hH (id := [7, p, j]) (by first | trivial | (simp only [xD]; omega) | (simp [xD]; done) | (simp [xD]; omega)) rfl rfl (by decide) 0 (by decide) (hts _ tw327) (fun _ h9 => h9) rfl (v := .int (I [7, p, j] 0)) rfl dX0_applyRule_100 ?_
      refine lv_bipush (v := 115) hx hb dX0_applyRule_103 (by decide) ?_
      refine lv_icmp_ne (tgt := 125) hx hb dX0_applyRule_105 (by decide) (fun c_105 => ?_) (fun c_105 => ?_)
      · skip
        exact J125 _ _ ⟨n1, n2, (fun z_ => c_105 z_.2.1)⟩ hH hS
      · skip
        refine lv_aload_n hx hb dX0_applyRule_108 rfl (lv_at hl 2 rfl) ?_
        refine lv_iload_n hx hb dX0_applyRule_109 rfl (lv_at hl 3 rfl) ?_
        refine x_V1 hx hb hml hown hE hS hl.1 cyX0_areChildrenDone tw560 (c_X0_areChildrenDone l g h I n c X hc p hp hpp hW j (by omega) hch) ⟨Nat.le_of_ble_eq_true rfl, Nat.le_of_ble_eq_true rfl⟩ ⟨Nat.le_of_ble_eq_true rfl, Nat.le_of_ble_eq_true rfl⟩ (x_recv hK hH (id := [11, c, 0]) (by first | trivial | (simp only [xD]; omega) | (simp [xD]; done) | (simp [xD]; omega)) (ci := 0) rfl (by decide) rfl) hH rfl rfl (Nat.le_of_ble_eq_true rfl) dX0_applyRule_110 (fun H locs hH hS => ?_)
        refine lv_if_eq (tgt := 125) hx hb dX0_applyRule_113 (by decide) (fun c_113 => ?_) (fun c_113 => ?_)
        · skip
          exact J125 _ _ ⟨n1, n2, (fun z_ => by have z2 := (b01_eq0 _).mp c_113; rw [z_.2.2.1, z_.2.2.2] at z2; cases z2)⟩ hH hS
        · skip
          refine lv_aload_n hx hb dX0_applyRule_116 rfl (lv_at hl 2 rfl) ?_
          refine lv_iload_n hx hb dX0_applyRule_117 rfl (lv_at hl 3 rfl) ?_
          refine lv_bipush (v := 99) hx hb dX0_applyRule_118 (by decide) ?_
          refine x_V0 hx hb hml hown hE hS hl.1 cyX0_finish tw551 (c_X0_finish l g h I n c X hc p hp hpp hW j (by omega) 99 (by rfl) hch) ⟨Nat.le_of_ble_eq_true rfl, Nat.le_of_ble_eq_true rfl⟩ ⟨Nat.le_of_ble_eq_true rfl, Nat.le_of_ble_eq_true rfl⟩ (x_recv hK hH (id := [11, c, 0]) (by first | trivial | (simp only [xD]; omega) | (simp [xD]; done) | (simp [xD]; omega)) (ci := 0) rfl (by decide) rfl) hH rfl rfl (Nat.le_of_ble_eq_true rfl) dX0_applyRule_120 (fun H locs hH hS => ?_)
          refine lv_iconst (v := 1) hx hb dX0_applyRule_123 (by decide) ?_
          exact x_zret hx hb hr hlocks hS dX0_applyRule_124 rfl (by rw [sRul_3 n1 n2 (let z_ := b01_ne0 c_113; ⟨c_96, c_105, (Bool.and_eq_true _ _ ▸ z_ : _ ∧ _).1, (Bool.and_eq_true _ _ ▸ z_ : _ ∧ _).2⟩)]; rfl) (by rw [sRul_3 n1 n2 (let z_ := b01_ne0 c_113; ⟨c_96, c_105, (Bool.and_eq_true _ _ ▸ z_ : _ ∧ _).1, (Bool.and_eq_true _ _ ▸ z_ : _ ∧ _).2⟩)]; exact hH)
  have J47 : ∀ (H : Heap) (locs : List Loc), (¬ N1 (vC I p) (sCn h p) X j) → xR g (xD h) (sX I c X) (xFh h) n H → va_S (gA g) s.heap H locs → W P_ l e_ { frames := 3, cells := 0, slots := 0, locals := 59 } s m_ ([.ref (ga g [11, c, 0]), .int (nI j)] : List Value).toArray bl_ mt_ cd_ H locs 0 0 (MQ bl_ (xQc g (some (.int (b01 (sRul (vP I p) (vC I p) (sCn h p) (sSz h p) X j).1))) (xR g (xD h) (sX I c (sRul (vP I p) (vC I p) (sCn h p) (sSz h p) X j).2) (xFh h) n)) ([.ref (ga g [11, c, 0]), .int (nI j)] : List Value).toArray s 0 0 (gA g)) (F0 m_ 47 ls []) := by
    intro H locs hj47 hH hS
    have n1 := hj47
    refine lv_iload_n hx hb dX0_applyRule_47 rfl (lv_at hl 0 rfl) ?_
    refine lv_bipush (v := 105) hx hb dX0_applyRule_48 (by decide) ?_
    refine lv_icmp_ne (tgt := 93) hx hb dX0_applyRule_50 (by decide) (fun c_50 => ?_) (fun c_50 => ?_)
    · skip
      exact J93 _ _ ⟨n1, (fun z_ => c_50 z_.1)⟩ hH hS
    · skip
      refine lv_aload_n hx hb dX0_applyRule_53 rfl (lv_at hl 2 rfl) ?_
      refine lv_aload_n hx hb dX0_applyRule_54 rfl (lv_at hl 1 rfl) ?_
      refine x_V1 hx hb hml hown hE hS hl.1 cyX0_isParentActive tw552 (c_X0_isParentActive l g h I n c X hc p hp hpp hW j hj hch) ⟨Nat.le_of_ble_eq_true rfl, Nat.le_of_ble_eq_true rfl⟩ ⟨Nat.le_of_ble_eq_true rfl, Nat.le_of_ble_eq_true rfl⟩ (x_recv hK hH (id := [11, c, 0]) (by first | trivial | (simp only [xD]; omega) | (simp [xD]; done) | (simp [xD]; omega)) (ci := 0) rfl (by decide) rfl) hH rfl rfl (Nat.le_of_ble_eq_true rfl) dX0_applyRule_55 (fun H locs hH hS => ?_)
      refine lv_if_eq (tgt := 93) hx hb dX0_applyRule_58 (by decide) (fun c_58 => ?_) (fun c_58 => ?_)
      · skip
        exact J93 _ _ ⟨n1, (fun z_ => by have z2 := (b01_eq0 _).mp c_58; rw [z_.2.1] at z2; cases z2)⟩ hH hS
      · skip
        refine lv_aload_n hx hb dX0_applyRule_61 rfl (lv_at hl 1 rfl) ?_
        refine x_get (C := RX5) (T := TX5) (N := 7) (ci := 5) hx hb hts iu5 hown hK hH (id := [7, p, j]) (by first | trivial | (simp only [xD]; omega) | (simp [xD]; done) | (simp [xD]; omega)) rfl rfl (by decide) 2 (by decide) (hts _ tw332) (fun _ h9 => h9) rfl (v := .ref (ga g [8, p, j, 0])) rfl dX0_applyRule_62 ?_
        refine x_get (C := RX2) (T := TX2) (N := 2) (ci := 2) hx hb hts iu2 hown hK hH (id := [8, p, j, 0]) (by first | trivial | (simp only [xD]; omega) | (simp [xD]; done) | (simp [xD]; omega)) rfl rfl (by decide) 1 (by decide) (hts _ tw317) (fun _ h9 => h9) rfl (v := .int (nI (sCn h p j 0))) (congrArg Value.int ((hW.2.2.2 j hj).2.2 0 (by decide)).1) dX0_applyRule_65 ?_
        refine lv_if_eq (tgt := 82) hx hb dX0_applyRule_68 (by decide) (fun c_68 => ?_) (fun c_68 => ?_)
        · skip
          have c_68 := (nI_eq (a := (sCn h p j 0)) (b := 0) (by omega) (by omega)).mp c_68
          refine lv_aload_n hx hb dX0_applyRule_82 rfl (lv_at hl 2 rfl) ?_
          refine lv_iload_n hx hb dX0_applyRule_83 rfl (lv_at hl 3 rfl) ?_
          refine lv_aload_n hx hb dX0_applyRule_84 rfl (lv_at hl 1 rfl) ?_
          refine x_get (C := RX5) (T := TX5) (N := 7) (ci := 5) hx hb hts iu5 hown hK hH (id := [7, p, j]) (by first | trivial | (simp only [xD]; omega) | (simp [xD]; done) | (simp [xD]; omega)) rfl rfl (by decide) 0 (by decide) (hts _ tw327) (fun _ h9 => h9) rfl (v := .int (I [7, p, j] 0)) rfl dX0_applyRule_85 ?_
          refine x_V0 hx hb hml hown hE hS hl.1 cyX0_enter tw556 (c_X0_enter l g h I n c X hc j (I [7, p, j] 0) (by omega)) ⟨Nat.le_of_ble_eq_true rfl, Nat.le_of_ble_eq_true rfl⟩ ⟨Nat.le_of_ble_eq_true rfl, Nat.le_of_ble_eq_true rfl⟩ (x_recv hK hH (id := [11, c, 0]) (by first | trivial | (simp only [xD]; omega) | (simp [xD]; done) | (simp [xD]; omega)) (ci := 0) rfl (by decide) rfl) hH rfl rfl (Nat.le_of_ble_eq_true rfl) dX0_applyRule_88 (fun H locs hH hS => ?_)
          refine lv_iconst (v := 1) hx hb dX0_applyRule_91 (by decide) ?_
          exact x_zret hx hb hr hlocks hS dX0_applyRule_92 rfl (by rw [sRul_2 n1 ⟨c_50, b01_ne0 c_58, Or.inl c_68⟩]; rfl) (by rw [sRul_2 n1 ⟨c_50, b01_ne0 c_58, Or.inl c_68⟩]; exact hH)
        · skip
          have c_68 : ¬ _ := fun z_ => c_68 ((nI_eq (a := (sCn h p j 0)) (b := 0) (by omega) (by omega)).mpr z_)
          refine lv_aload_n hx hb dX0_applyRule_71 rfl (lv_at hl 2 rfl) ?_
          refine lv_aload_n hx hb dX0_applyRule_72 rfl (lv_at hl 1 rfl) ?_
          refine x_get (C := RX5) (T := TX5) (N := 7) (ci := 5) hx hb hts iu5 hown hK hH (id := [7, p, j]) (by first | trivial | (simp only [xD]; omega) | (simp [xD]; done) | (simp [xD]; omega)) rfl rfl (by decide) 2 (by decide) (hts _ tw332) (fun _ h9 => h9) rfl (v := .ref (ga g [8, p, j, 0])) rfl dX0_applyRule_73 ?_
          refine x_V1 hx hb hml hown hE hS hl.1 cyX0_anyMet tw539 (c_X0_anyMet l g h I n c X hc p j 0 hpp (by omega) hW.1 (by decide) ((hW.2.2.2 j (by omega)).2.2 0 (by decide)).2.1 ((hW.2.2.2 j (by omega)).2.2 0 (by decide)).1 ((hW.2.2.2 j (by omega)).2.2 0 (by decide)).2.2) ⟨Nat.le_of_ble_eq_true rfl, Nat.le_of_ble_eq_true rfl⟩ ⟨Nat.le_of_ble_eq_true rfl, Nat.le_of_ble_eq_true rfl⟩ (x_recv hK hH (id := [11, c, 0]) (by first | trivial | (simp only [xD]; omega) | (simp [xD]; done) | (simp [xD]; omega)) (ci := 0) rfl (by decide) rfl) hH rfl rfl (Nat.le_of_ble_eq_true rfl) dX0_applyRule_76 (fun H locs hH hS => ?_)
          refine lv_if_eq (tgt := 93) hx hb dX0_applyRule_79 (by decide) (fun c_79 => ?_) (fun c_79 => ?_)
          · skip
            exact J93 _ _ ⟨n1, (fun z_ => by rcases z_.2.2 with z2 | z2; exact c_68 z2; have z3 := (b01_eq0 _).mp c_79; rw [z2] at z3; cases z3)⟩ hH hS
          · skip
            refine lv_aload_n hx hb dX0_applyRule_82 rfl (lv_at hl 2 rfl) ?_
            refine lv_iload_n hx hb dX0_applyRule_83 rfl (lv_at hl 3 rfl) ?_
            refine lv_aload_n hx hb dX0_applyRule_84 rfl (lv_at hl 1 rfl) ?_
            refine x_get (C := RX5) (T := TX5) (N := 7) (ci := 5) hx hb hts iu5 hown hK hH (id := [7, p, j]) (by first | trivial | (simp only [xD]; omega) | (simp [xD]; done) | (simp [xD]; omega)) rfl rfl (by decide) 0 (by decide) (hts _ tw327) (fun _ h9 => h9) rfl (v := .int (I [7, p, j] 0)) rfl dX0_applyRule_85 ?_
            refine x_V0 hx hb hml hown hE hS hl.1 cyX0_enter tw556 (c_X0_enter l g h I n c X hc j (I [7, p, j] 0) (by omega)) ⟨Nat.le_of_ble_eq_true rfl, Nat.le_of_ble_eq_true rfl⟩ ⟨Nat.le_of_ble_eq_true rfl, Nat.le_of_ble_eq_true rfl⟩ (x_recv hK hH (id := [11, c, 0]) (by first | trivial | (simp only [xD]; omega) | (simp [xD]; done) | (simp [xD]; omega)) (ci := 0) rfl (by decide) rfl) hH rfl rfl (Nat.le_of_ble_eq_true rfl) dX0_applyRule_88 (fun H locs hH hS => ?_)
            refine lv_iconst (v := 1) hx hb dX0_applyRule_91 (by decide) ?_
            exact x_zret hx hb hr hlocks hS dX0_applyRule_92 rfl (by rw [sRul_2 n1 ⟨c_50, b01_ne0 c_58, Or.inr (b01_ne0 c_79)⟩]; rfl) (by rw [sRul_2 n1 ⟨c_50, b01_ne0 c_58, Or.inr (b01_ne0 c_79)⟩]; exact hH)
  refine lv_iload_n hx hb dX0_applyRule_21 rfl (lv_at hl 0 rfl) ?_
  refine lv_bipush (v := 97) hx hb dX0_applyRule_22 (by decide) ?_
  refine lv_icmp_ne (tgt := 47) hx hb dX0_applyRule_24 (by decide) (fun c_24 => ?_) (fun c_24 => ?_)
  · skip
    exact J47 _ _ (fun z_ => c_24 z_.1) hH hS
  · skip
    refine lv_aload_n hx hb dX0_applyRule_27 rfl (lv_at hl 2 rfl) ?_
    refine lv_aload_n hx hb dX0_applyRule_28 rfl (lv_at hl 1 rfl) ?_
    refine x_get (C := RX5) (T := TX5) (N := 7) (ci := 5) hx hb hts iu5 hown hK hH (id := [7, p, j]) (by first | trivial | (simp only [xD]; omega) | (simp [xD]; done) | (simp [xD]; omega)) rfl rfl (by decide) 3 (by decide) (hts _ tw335) (fun _ h9 => h9) rfl (v := .ref (ga g [8, p, j, 1])) rfl dX0_applyRule_29 ?_
    refine x_V1 hx hb hml hown hE hS hl.1 cyX0_anyMet tw539 (c_X0_anyMet l g h I n c X hc p j 1 hpp (by omega) hW.1 (by decide) ((hW.2.2.2 j (by omega)).2.2 1 (by decide)).2.1 ((hW.2.2.2 j (by omega)).2.2 1 (by decide)).1 ((hW.2.2.2 j (by omega)).2.2 1 (by decide)).2.2) ⟨Nat.le_of_ble_eq_true rfl, Nat.le_of_ble_eq_true rfl⟩ ⟨Nat.le_of_ble_eq_true rfl, Nat.le_of_ble_eq_true rfl⟩ (x_recv hK hH (id := [11, c, 0]) (by first | trivial | (simp only [xD]; omega) | (simp [xD]; done) | (simp [xD]; omega)) (ci := 0) rfl (by decide) rfl) hH rfl rfl (Nat.le_of_ble_eq_true rfl) dX0_applyRule_32 (fun H locs hH hS => ?_)
    refine lv_if_eq (tgt := 47) hx hb dX0_applyRule_35 (by decide) (fun c_35 => ?_) (fun c_35 => ?_)
    · skip
      exact J47 _ _ (fun z_ => by have z2 := (b01_eq0 _).mp c_35; rw [z_.2] at z2; cases z2) hH hS
    · skip
      refine lv_aload_n hx hb dX0_applyRule_38 rfl (lv_at hl 2 rfl) ?_
      refine lv_iload_n hx hb dX0_applyRule_39 rfl (lv_at hl 3 rfl) ?_
      refine lv_bipush (v := 120) hx hb dX0_applyRule_40 (by decide) ?_
      refine x_V0 hx hb hml hown hE hS hl.1 cyX0_finish tw551 (c_X0_finish l g h I n c X hc p hp hpp hW j (by omega) 120 (by rfl) hch) ⟨Nat.le_of_ble_eq_true rfl, Nat.le_of_ble_eq_true rfl⟩ ⟨Nat.le_of_ble_eq_true rfl, Nat.le_of_ble_eq_true rfl⟩ (x_recv hK hH (id := [11, c, 0]) (by first | trivial | (simp only [xD]; omega) | (simp [xD]; done) | (simp [xD]; omega)) (ci := 0) rfl (by decide) rfl) hH rfl rfl (Nat.le_of_ble_eq_true rfl) dX0_applyRule_42 (fun H locs hH hS => ?_)
      refine lv_iconst (v := 1) hx hb dX0_applyRule_45 (by decide) ?_
      exact x_zret hx hb hr hlocks hS dX0_applyRule_46 rfl (by rw [sRul_1 ⟨c_24, b01_ne0 c_35⟩]; rfl) (by rw [sRul_1 ⟨c_24, b01_ne0 c_35⟩]; exact hH)
