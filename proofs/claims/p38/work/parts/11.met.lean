/-! CONTRACTS: conditions -/
theorem i_ge {x y : Int32} (h : x ≤ y) : ¬ y < x := Int32.not_lt.mpr h
theorem sMet_d {C : Nat → Int32} {X : xX} (h : C 0 = 100) : sMet C X = decide (C 2 ≤ X 1 (C 1).toNatClampNeg) := by simp [sMet, h]
theorem sMet_l {C : Nat → Int32} {X : xX} (h : C 0 = 108) : sMet C X = decide (X 1 (C 1).toNatClampNeg < C 2) := by simp [sMet, h]
theorem sMet_e {C : Nat → Int32} {X : xX} (h : C 0 = 101) : sMet C X = decide (X 0 8 = C 1) := by simp [sMet, h]
theorem sMet_c {C : Nat → Int32} {X : xX} (h : C 0 = 99) : sMet C X = decide (X 2 (C 1).toNatClampNeg = 99) := by simp [sMet, h]
theorem sMet_t {C : Nat → Int32} {X : xX} (h : C 0 = 116) : sMet C X = decide (C 1 ≤ X 0 6) := by simp [sMet, h]
set_option maxHeartbeats 1000000 in
set_option maxRecDepth 100000 in
theorem c_X0_isMet (l : Launch) (g : xG) (h : xS) (I : xI) (n c : Nat) (X : xX) (hc : c < sNc h ∨ c = 4) (p j w k : Nat) (hpp : p < sNp h) (hj : j < sSz h p) (h8 : sSz h p ≤ 8) (hw : w < 2) (hk : k < sCn h p j w) (hcv : sCV (I [10, p, j, w, k]) (sSz h p))  : xM l yX0_isMet (xws yX0_isMet cX0_isMet 4 (some FieldType.boolean)) 1 12 g [.ref (ga g [11, c, 0]), .ref (ga g [10, p, j, w, k])] (xR g (xD h) (sX I c X) (xFh h) n) (some (.int (b01 (sMet (I [10, p, j, w, k]) X)))) (xR g (xD h) (sX I c X) (xFh h) n) 0 0 := by
  refine xM.of (by decide) (Nat.le_of_ble_eq_true rfl) ?_
  intro P_ e_ s m_ bl_ mt_ cd_ ls hx hb hr hown hlocks hml hnm hE hK hts hH hS hl
  have hl : lv_has ls 4 [(0, .ref (ga g [11, c, 0])), (1, .ref (ga g [10, p, j, w, k]))] := hl
  rcases hcv with ⟨h0 | h0, a, ha, h1⟩ | h0 | ⟨h0, a, ha, h1⟩ | h0
  · skip
    have hcl : (I [10, p, j, w, k] 1).toNatClampNeg = a := by rw [h1]; exact nI_clamp (by omega)
    refine lv_aload_n hx hb dX0_isMet_0 rfl (lv_at hl 1 rfl) ?_
    refine x_get (C := RX1) (T := TX1) (N := 3) (ci := 1) hx hb hts iu1 hown hK hH (id := [10, p, j, w, k]) (by first | trivial | (simp only [xD]; omega) | (simp [xD]; done) | (simp [xD]; omega)) rfl rfl (by decide) 0 (by decide) (hts _ tw404) (fun _ h9 => h9) rfl (v := .int 100) (congrArg Value.int h0) dX0_isMet_1 ?_
    refine lv_istore_n (lv' := [(2, .int 100), (0, .ref (ga g [11, c, 0])), (1, .ref (ga g [10, p, j, w, k]))]) hx hb dX0_isMet_4 rfl hl (by decide) rfl (fun ls hl => ?_)
    refine lv_aload_n hx hb dX0_isMet_5 rfl (lv_at hl 2 rfl) ?_
    refine x_get (C := RX1) (T := TX1) (N := 3) (ci := 1) hx hb hts iu1 hown hK hH (id := [10, p, j, w, k]) (by first | trivial | (simp only [xD]; omega) | (simp [xD]; done) | (simp [xD]; omega)) rfl rfl (by decide) 1 (by decide) (hts _ tw406) (fun _ h9 => h9) rfl (v := .int (nI a)) (congrArg Value.int h1) dX0_isMet_6 ?_
    refine lv_istore_n (lv' := [(3, .int (nI a)), (2, .int 100), (0, .ref (ga g [11, c, 0])), (1, .ref (ga g [10, p, j, w, k]))]) hx hb dX0_isMet_9 rfl hl (by decide) rfl (fun ls hl => ?_)
    refine lv_iload_n hx hb dX0_isMet_10 rfl (lv_at hl 1 rfl) ?_
    refine lv_bipush (v := 100) hx hb dX0_isMet_11 (by decide) ?_
    refine lv_icmp_ne (tgt := 44) hx hb dX0_isMet_13 (by decide) (fun q_ => absurd (by decide) q_) (fun _ => ?_)
    refine lv_iload_n hx hb dX0_isMet_16 rfl (lv_at hl 0 rfl) ?_
    refine lv_if_lt (tgt := 42) hx hb dX0_isMet_17 (by decide) (fun q_ => absurd q_ (fun z_ => absurd ((nI_ltI (a := a) (b := 0) (by omega) (by omega)).mp z_) (by omega))) (fun _ => ?_)
    refine lv_iload_n hx hb dX0_isMet_20 rfl (lv_at hl 0 rfl) ?_
    refine lv_iconst (v := 4) hx hb dX0_isMet_21 (by decide) ?_
    refine lv_icmp_ge (tgt := 42) hx hb dX0_isMet_22 (by decide) (fun q_ => absurd q_ (fun z_ => absurd ((nI_leI (a := 4) (b := a) (by omega) (by omega)).mp z_) (by omega))) (fun _ => ?_)
    refine lv_aload_n hx hb dX0_isMet_25 rfl (lv_at hl 2 rfl) ?_
    refine x_get (C := RX0) (T := TX0) (N := 11) (ci := 0) hx hb hts iu0 hown hK hH (id := [11, c, 0]) (by first | trivial | (simp only [xD]; omega) | (simp [xD]; done) | (simp [xD]; omega)) rfl rfl (by decide) 1 (by decide) (hts _ tw92) (fun _ h9 => h9) (sX_at _ _ _ _) (v := .ref (ga g [11, c, 1])) rfl dX0_isMet_26 ?_
    refine lv_iload_n hx hb dX0_isMet_29 rfl (lv_at hl 0 rfl) ?_
    refine x_iald hx hb hK hH (id := [11, c, 1]) (by first | trivial | (simp only [xD]; omega) | (simp [xD]; done) | (simp [xD]; omega)) (L := 4) rfl (sX_at _ _ _ _) a rfl (by omega) (by decide) dX0_isMet_30 ?_
    refine lv_aload_n hx hb dX0_isMet_31 rfl (lv_at hl 3 rfl) ?_
    refine x_get (C := RX1) (T := TX1) (N := 3) (ci := 1) hx hb hts iu1 hown hK hH (id := [10, p, j, w, k]) (by first | trivial | (simp only [xD]; omega) | (simp [xD]; done) | (simp [xD]; omega)) rfl rfl (by decide) 2 (by decide) (hts _ tw408) (fun _ h9 => h9) rfl (v := .int (I [10, p, j, w, k] 2)) rfl dX0_isMet_32 ?_
    refine lv_icmp_lt (tgt := 42) hx hb dX0_isMet_35 (by decide) (fun c_35 => ?_) (fun c_35 => ?_)
    · skip
      refine lv_iconst (v := 0) hx hb dX0_isMet_42 (by decide) ?_
      exact x_zret hx hb hr hlocks hS dX0_isMet_43 rfl (b01_f (by rw [(sMet_d h0), hcl]; exact decide_eq_false (i_lt_nle c_35))) hH
    · skip
      refine lv_iconst (v := 1) hx hb dX0_isMet_38 (by decide) ?_
      refine lv_goto (tgt := 43) hx hb dX0_isMet_39 (by decide) ?_
      exact x_zret hx hb hr hlocks hS dX0_isMet_43 rfl (b01_t (by rw [(sMet_d h0), hcl]; exact decide_eq_true (i_nlt c_35))) hH
  · skip
    have hcl : (I [10, p, j, w, k] 1).toNatClampNeg = a := by rw [h1]; exact nI_clamp (by omega)
    refine lv_aload_n hx hb dX0_isMet_0 rfl (lv_at hl 1 rfl) ?_
    refine x_get (C := RX1) (T := TX1) (N := 3) (ci := 1) hx hb hts iu1 hown hK hH (id := [10, p, j, w, k]) (by first | trivial | (simp only [xD]; omega) | (simp [xD]; done) | (simp [xD]; omega)) rfl rfl (by decide) 0 (by decide) (hts _ tw404) (fun _ h9 => h9) rfl (v := .int 108) (congrArg Value.int h0) dX0_isMet_1 ?_
    refine lv_istore_n (lv' := [(2, .int 108), (0, .ref (ga g [11, c, 0])), (1, .ref (ga g [10, p, j, w, k]))]) hx hb dX0_isMet_4 rfl hl (by decide) rfl (fun ls hl => ?_)
    refine lv_aload_n hx hb dX0_isMet_5 rfl (lv_at hl 2 rfl) ?_
    refine x_get (C := RX1) (T := TX1) (N := 3) (ci := 1) hx hb hts iu1 hown hK hH (id := [10, p, j, w, k]) (by first | trivial | (simp only [xD]; omega) | (simp [xD]; done) | (simp [xD]; omega)) rfl rfl (by decide) 1 (by decide) (hts _ tw406) (fun _ h9 => h9) rfl (v := .int (nI a)) (congrArg Value.int h1) dX0_isMet_6 ?_
    refine lv_istore_n (lv' := [(3, .int (nI a)), (2, .int 108), (0, .ref (ga g [11, c, 0])), (1, .ref (ga g [10, p, j, w, k]))]) hx hb dX0_isMet_9 rfl hl (by decide) rfl (fun ls hl => ?_)
    refine lv_iload_n hx hb dX0_isMet_10 rfl (lv_at hl 1 rfl) ?_
    refine lv_bipush (v := 100) hx hb dX0_isMet_11 (by decide) ?_
    refine lv_icmp_ne (tgt := 44) hx hb dX0_isMet_13 (by decide) (fun _ => ?_) (fun q_ => absurd q_ (by decide))
    refine lv_iload_n hx hb dX0_isMet_44 rfl (lv_at hl 1 rfl) ?_
    refine lv_bipush (v := 108) hx hb dX0_isMet_45 (by decide) ?_
    refine lv_icmp_ne (tgt := 78) hx hb dX0_isMet_47 (by decide) (fun q_ => absurd (by decide) q_) (fun _ => ?_)
    refine lv_iload_n hx hb dX0_isMet_50 rfl (lv_at hl 0 rfl) ?_
    refine lv_if_lt (tgt := 76) hx hb dX0_isMet_51 (by decide) (fun q_ => absurd q_ (fun z_ => absurd ((nI_ltI (a := a) (b := 0) (by omega) (by omega)).mp z_) (by omega))) (fun _ => ?_)
    refine lv_iload_n hx hb dX0_isMet_54 rfl (lv_at hl 0 rfl) ?_
    refine lv_iconst (v := 4) hx hb dX0_isMet_55 (by decide) ?_
    refine lv_icmp_ge (tgt := 76) hx hb dX0_isMet_56 (by decide) (fun q_ => absurd q_ (fun z_ => absurd ((nI_leI (a := 4) (b := a) (by omega) (by omega)).mp z_) (by omega))) (fun _ => ?_)
    refine lv_aload_n hx hb dX0_isMet_59 rfl (lv_at hl 2 rfl) ?_
    refine x_get (C := RX0) (T := TX0) (N := 11) (ci := 0) hx hb hts iu0 hown hK hH (id := [11, c, 0]) (by first | trivial | (simp only [xD]; omega) | (simp [xD]; done) | (simp [xD]; omega)) rfl rfl (by decide) 1 (by decide) (hts _ tw92) (fun _ h9 => h9) (sX_at _ _ _ _) (v := .ref (ga g [11, c, 1])) rfl dX0_isMet_60 ?_
    refine lv_iload_n hx hb dX0_isMet_63 rfl (lv_at hl 0 rfl) ?_
    refine x_iald hx hb hK hH (id := [11, c, 1]) (by first | trivial | (simp only [xD]; omega) | (simp [xD]; done) | (simp [xD]; omega)) (L := 4) rfl (sX_at _ _ _ _) a rfl (by omega) (by decide) dX0_isMet_64 ?_
    refine lv_aload_n hx hb dX0_isMet_65 rfl (lv_at hl 3 rfl) ?_
    refine x_get (C := RX1) (T := TX1) (N := 3) (ci := 1) hx hb hts iu1 hown hK hH (id := [10, p, j, w, k]) (by first | trivial | (simp only [xD]; omega) | (simp [xD]; done) | (simp [xD]; omega)) rfl rfl (by decide) 2 (by decide) (hts _ tw408) (fun _ h9 => h9) rfl (v := .int (I [10, p, j, w, k] 2)) rfl dX0_isMet_66 ?_
    refine lv_icmp_ge (tgt := 76) hx hb dX0_isMet_69 (by decide) (fun c_69 => ?_) (fun c_69 => ?_)
    · skip
      refine lv_iconst (v := 0) hx hb dX0_isMet_76 (by decide) ?_
      exact x_zret hx hb hr hlocks hS dX0_isMet_77 rfl (b01_f (by rw [(sMet_l h0), hcl]; exact decide_eq_false (i_ge c_69))) hH
    · skip
      refine lv_iconst (v := 1) hx hb dX0_isMet_72 (by decide) ?_
      refine lv_goto (tgt := 77) hx hb dX0_isMet_73 (by decide) ?_
      exact x_zret hx hb hr hlocks hS dX0_isMet_77 rfl (b01_t (by rw [(sMet_l h0), hcl]; exact decide_eq_true (i_nle (fun z_ => c_69 z_)))) hH
  · skip
    refine lv_aload_n hx hb dX0_isMet_0 rfl (lv_at hl 1 rfl) ?_
    refine x_get (C := RX1) (T := TX1) (N := 3) (ci := 1) hx hb hts iu1 hown hK hH (id := [10, p, j, w, k]) (by first | trivial | (simp only [xD]; omega) | (simp [xD]; done) | (simp [xD]; omega)) rfl rfl (by decide) 0 (by decide) (hts _ tw404) (fun _ h9 => h9) rfl (v := .int 101) (congrArg Value.int h0) dX0_isMet_1 ?_
    refine lv_istore_n (lv' := [(2, .int 101), (0, .ref (ga g [11, c, 0])), (1, .ref (ga g [10, p, j, w, k]))]) hx hb dX0_isMet_4 rfl hl (by decide) rfl (fun ls hl => ?_)
    refine lv_aload_n hx hb dX0_isMet_5 rfl (lv_at hl 2 rfl) ?_
    refine x_get (C := RX1) (T := TX1) (N := 3) (ci := 1) hx hb hts iu1 hown hK hH (id := [10, p, j, w, k]) (by first | trivial | (simp only [xD]; omega) | (simp [xD]; done) | (simp [xD]; omega)) rfl rfl (by decide) 1 (by decide) (hts _ tw406) (fun _ h9 => h9) rfl (v := .int (I [10, p, j, w, k] 1)) rfl dX0_isMet_6 ?_
    refine lv_istore_n (lv' := [(3, .int (I [10, p, j, w, k] 1)), (2, .int 101), (0, .ref (ga g [11, c, 0])), (1, .ref (ga g [10, p, j, w, k]))]) hx hb dX0_isMet_9 rfl hl (by decide) rfl (fun ls hl => ?_)
    refine lv_iload_n hx hb dX0_isMet_10 rfl (lv_at hl 1 rfl) ?_
    refine lv_bipush (v := 100) hx hb dX0_isMet_11 (by decide) ?_
    refine lv_icmp_ne (tgt := 44) hx hb dX0_isMet_13 (by decide) (fun _ => ?_) (fun q_ => absurd q_ (by decide))
    refine lv_iload_n hx hb dX0_isMet_44 rfl (lv_at hl 1 rfl) ?_
    refine lv_bipush (v := 108) hx hb dX0_isMet_45 (by decide) ?_
    refine lv_icmp_ne (tgt := 78) hx hb dX0_isMet_47 (by decide) (fun _ => ?_) (fun q_ => absurd q_ (by decide))
    refine lv_iload_n hx hb dX0_isMet_78 rfl (lv_at hl 1 rfl) ?_
    refine lv_bipush (v := 101) hx hb dX0_isMet_79 (by decide) ?_
    refine lv_icmp_ne (tgt := 98) hx hb dX0_isMet_81 (by decide) (fun q_ => absurd (by decide) q_) (fun _ => ?_)
    refine lv_aload_n hx hb dX0_isMet_84 rfl (lv_at hl 2 rfl) ?_
    refine x_get (C := RX0) (T := TX0) (N := 11) (ci := 0) hx hb hts iu0 hown hK hH (id := [11, c, 0]) (by first | trivial | (simp only [xD]; omega) | (simp [xD]; done) | (simp [xD]; omega)) rfl rfl (by decide) 8 (by decide) (hts _ tw101) (fun _ h9 => h9) (sX_at _ _ _ _) (v := .int (X 0 8)) rfl dX0_isMet_85 ?_
    refine lv_iload_n hx hb dX0_isMet_88 rfl (lv_at hl 0 rfl) ?_
    refine lv_icmp_ne (tgt := 96) hx hb dX0_isMet_89 (by decide) (fun c_89 => ?_) (fun c_89 => ?_)
    · skip
      refine lv_iconst (v := 0) hx hb dX0_isMet_96 (by decide) ?_
      exact x_zret hx hb hr hlocks hS dX0_isMet_97 rfl (b01_f (by rw [(sMet_e h0)]; exact decide_eq_false (c_89))) hH
    · skip
      refine lv_iconst (v := 1) hx hb dX0_isMet_92 (by decide) ?_
      refine lv_goto (tgt := 97) hx hb dX0_isMet_93 (by decide) ?_
      exact x_zret hx hb hr hlocks hS dX0_isMet_97 rfl (b01_t (by rw [(sMet_e h0)]; exact decide_eq_true (c_89))) hH
  · skip
    have hcl : (I [10, p, j, w, k] 1).toNatClampNeg = a := by rw [h1]; exact nI_clamp (by omega)
    refine lv_aload_n hx hb dX0_isMet_0 rfl (lv_at hl 1 rfl) ?_
    refine x_get (C := RX1) (T := TX1) (N := 3) (ci := 1) hx hb hts iu1 hown hK hH (id := [10, p, j, w, k]) (by first | trivial | (simp only [xD]; omega) | (simp [xD]; done) | (simp [xD]; omega)) rfl rfl (by decide) 0 (by decide) (hts _ tw404) (fun _ h9 => h9) rfl (v := .int 99) (congrArg Value.int h0) dX0_isMet_1 ?_
    refine lv_istore_n (lv' := [(2, .int 99), (0, .ref (ga g [11, c, 0])), (1, .ref (ga g [10, p, j, w, k]))]) hx hb dX0_isMet_4 rfl hl (by decide) rfl (fun ls hl => ?_)
    refine lv_aload_n hx hb dX0_isMet_5 rfl (lv_at hl 2 rfl) ?_
    refine x_get (C := RX1) (T := TX1) (N := 3) (ci := 1) hx hb hts iu1 hown hK hH (id := [10, p, j, w, k]) (by first | trivial | (simp only [xD]; omega) | (simp [xD]; done) | (simp [xD]; omega)) rfl rfl (by decide) 1 (by decide) (hts _ tw406) (fun _ h9 => h9) rfl (v := .int (nI a)) (congrArg Value.int h1) dX0_isMet_6 ?_
    refine lv_istore_n (lv' := [(3, .int (nI a)), (2, .int 99), (0, .ref (ga g [11, c, 0])), (1, .ref (ga g [10, p, j, w, k]))]) hx hb dX0_isMet_9 rfl hl (by decide) rfl (fun ls hl => ?_)
    refine lv_iload_n hx hb dX0_isMet_10 rfl (lv_at hl 1 rfl) ?_
    refine lv_bipush (v := 100) hx hb dX0_isMet_11 (by decide) ?_
    refine lv_icmp_ne (tgt := 44) hx hb dX0_isMet_13 (by decide) (fun _ => ?_) (fun q_ => absurd q_ (by decide))
    refine lv_iload_n hx hb dX0_isMet_44 rfl (lv_at hl 1 rfl) ?_
    refine lv_bipush (v := 108) hx hb dX0_isMet_45 (by decide) ?_
    refine lv_icmp_ne (tgt := 78) hx hb dX0_isMet_47 (by decide) (fun _ => ?_) (fun q_ => absurd q_ (by decide))
    refine lv_iload_n hx hb dX0_isMet_78 rfl (lv_at hl 1 rfl) ?_
    refine lv_bipush (v := 101) hx hb dX0_isMet_79 (by decide) ?_
    refine lv_icmp_ne (tgt := 98) hx hb dX0_isMet_81 (by decide) (fun _ => ?_) (fun q_ => absurd q_ (by decide))
    refine lv_iload_n hx hb dX0_isMet_98 rfl (lv_at hl 1 rfl) ?_
    refine lv_bipush (v := 99) hx hb dX0_isMet_99 (by decide) ?_
    refine lv_icmp_ne (tgt := 131) hx hb dX0_isMet_101 (by decide) (fun q_ => absurd (by decide) q_) (fun _ => ?_)
    refine lv_iload_n hx hb dX0_isMet_104 rfl (lv_at hl 0 rfl) ?_
    refine lv_if_lt (tgt := 129) hx hb dX0_isMet_105 (by decide) (fun q_ => absurd q_ (fun z_ => absurd ((nI_ltI (a := a) (b := 0) (by omega) (by omega)).mp z_) (by omega))) (fun _ => ?_)
    refine lv_iload_n hx hb dX0_isMet_108 rfl (lv_at hl 0 rfl) ?_
    refine lv_bipush (v := 8) hx hb dX0_isMet_109 (by decide) ?_
    refine lv_icmp_ge (tgt := 129) hx hb dX0_isMet_111 (by decide) (fun q_ => absurd q_ (fun z_ => absurd ((nI_leI (a := 8) (b := a) (by omega) (by omega)).mp z_) (by omega))) (fun _ => ?_)
    refine lv_aload_n hx hb dX0_isMet_114 rfl (lv_at hl 2 rfl) ?_
    refine x_get (C := RX0) (T := TX0) (N := 11) (ci := 0) hx hb hts iu0 hown hK hH (id := [11, c, 0]) (by first | trivial | (simp only [xD]; omega) | (simp [xD]; done) | (simp [xD]; omega)) rfl rfl (by decide) 2 (by decide) (hts _ tw93) (fun _ h9 => h9) (sX_at _ _ _ _) (v := .ref (ga g [11, c, 2])) rfl dX0_isMet_115 ?_
    refine lv_iload_n hx hb dX0_isMet_118 rfl (lv_at hl 0 rfl) ?_
    refine x_cald hx hb hK hH (id := [11, c, 2]) (by first | trivial | (simp only [xD]; omega) | (simp [xD]; done) | (simp [xD]; omega)) (L := 8) rfl (sX_at _ _ _ _) a rfl (by omega) (by decide) dX0_isMet_119 ?_
    refine lv_bipush (v := 99) hx hb dX0_isMet_120 (by decide) ?_
    refine lv_icmp_ne (tgt := 129) hx hb dX0_isMet_122 (by decide) (fun c_122 => ?_) (fun c_122 => ?_)
    · skip
      refine lv_iconst (v := 0) hx hb dX0_isMet_129 (by decide) ?_
      exact x_zret hx hb hr hlocks hS dX0_isMet_130 rfl (b01_f (by rw [(sMet_c h0), hcl]; exact decide_eq_false (c_122))) hH
    · skip
      refine lv_iconst (v := 1) hx hb dX0_isMet_125 (by decide) ?_
      refine lv_goto (tgt := 130) hx hb dX0_isMet_126 (by decide) ?_
      exact x_zret hx hb hr hlocks hS dX0_isMet_130 rfl (b01_t (by rw [(sMet_c h0), hcl]; exact decide_eq_true (c_122))) hH
  · skip
    refine lv_aload_n hx hb dX0_isMet_0 rfl (lv_at hl 1 rfl) ?_
    refine x_get (C := RX1) (T := TX1) (N := 3) (ci := 1) hx hb hts iu1 hown hK hH (id := [10, p, j, w, k]) (by first | trivial | (simp only [xD]; omega) | (simp [xD]; done) | (simp [xD]; omega)) rfl rfl (by decide) 0 (by decide) (hts _ tw404) (fun _ h9 => h9) rfl (v := .int 116) (congrArg Value.int h0) dX0_isMet_1 ?_
    refine lv_istore_n (lv' := [(2, .int 116), (0, .ref (ga g [11, c, 0])), (1, .ref (ga g [10, p, j, w, k]))]) hx hb dX0_isMet_4 rfl hl (by decide) rfl (fun ls hl => ?_)
    refine lv_aload_n hx hb dX0_isMet_5 rfl (lv_at hl 2 rfl) ?_
    refine x_get (C := RX1) (T := TX1) (N := 3) (ci := 1) hx hb hts iu1 hown hK hH (id := [10, p, j, w, k]) (by first | trivial | (simp only [xD]; omega) | (simp [xD]; done) | (simp [xD]; omega)) rfl rfl (by decide) 1 (by decide) (hts _ tw406) (fun _ h9 => h9) rfl (v := .int (I [10, p, j, w, k] 1)) rfl dX0_isMet_6 ?_
    refine lv_istore_n (lv' := [(3, .int (I [10, p, j, w, k] 1)), (2, .int 116), (0, .ref (ga g [11, c, 0])), (1, .ref (ga g [10, p, j, w, k]))]) hx hb dX0_isMet_9 rfl hl (by decide) rfl (fun ls hl => ?_)
    refine lv_iload_n hx hb dX0_isMet_10 rfl (lv_at hl 1 rfl) ?_
    refine lv_bipush (v := 100) hx hb dX0_isMet_11 (by decide) ?_
    refine lv_icmp_ne (tgt := 44) hx hb dX0_isMet_13 (by decide) (fun _ => ?_) (fun q_ => absurd q_ (by decide))
    refine lv_iload_n hx hb dX0_isMet_44 rfl (lv_at hl 1 rfl) ?_
    refine lv_bipush (v := 108) hx hb dX0_isMet_45 (by decide) ?_
    refine lv_icmp_ne (tgt := 78) hx hb dX0_isMet_47 (by decide) (fun _ => ?_) (fun q_ => absurd q_ (by decide))
    refine lv_iload_n hx hb dX0_isMet_78 rfl (lv_at hl 1 rfl) ?_
    refine lv_bipush (v := 101) hx hb dX0_isMet_79 (by decide) ?_
    refine lv_icmp_ne (tgt := 98) hx hb dX0_isMet_81 (by decide) (fun _ => ?_) (fun q_ => absurd q_ (by decide))
    refine lv_iload_n hx hb dX0_isMet_98 rfl (lv_at hl 1 rfl) ?_
    refine lv_bipush (v := 99) hx hb dX0_isMet_99 (by decide) ?_
    refine lv_icmp_ne (tgt := 131) hx hb dX0_isMet_101 (by decide) (fun _ => ?_) (fun q_ => absurd q_ (by decide))
    refine lv_iload_n hx hb dX0_isMet_131 rfl (lv_at hl 1 rfl) ?_
    refine lv_bipush (v := 116) hx hb dX0_isMet_132 (by decide) ?_
    refine lv_icmp_ne (tgt := 149) hx hb dX0_isMet_134 (by decide) (fun q_ => absurd (by decide) q_) (fun _ => ?_)
    refine lv_aload_n hx hb dX0_isMet_137 rfl (lv_at hl 2 rfl) ?_
    refine x_get (C := RX0) (T := TX0) (N := 11) (ci := 0) hx hb hts iu0 hown hK hH (id := [11, c, 0]) (by first | trivial | (simp only [xD]; omega) | (simp [xD]; done) | (simp [xD]; omega)) rfl rfl (by decide) 6 (by decide) (hts _ tw97) (fun _ h9 => h9) (sX_at _ _ _ _) (v := .int (X 0 6)) rfl dX0_isMet_138 ?_
    refine lv_iload_n hx hb dX0_isMet_141 rfl (lv_at hl 0 rfl) ?_
    refine lv_icmp_lt (tgt := 149) hx hb dX0_isMet_142 (by decide) (fun c_142 => ?_) (fun c_142 => ?_)
    · skip
      refine lv_iconst (v := 0) hx hb dX0_isMet_149 (by decide) ?_
      exact x_zret hx hb hr hlocks hS dX0_isMet_150 rfl (b01_f (by rw [(sMet_t h0)]; exact decide_eq_false (i_lt_nle c_142))) hH
    · skip
      refine lv_iconst (v := 1) hx hb dX0_isMet_145 (by decide) ?_
      refine lv_goto (tgt := 150) hx hb dX0_isMet_146 (by decide) ?_
      exact x_zret hx hb hr hlocks hS dX0_isMet_150 rfl (b01_t (by rw [(sMet_t h0)]; exact decide_eq_true (i_nlt c_142))) hH

theorem sAny_mono {C : Nat → Nat → Int32} {X : xX} (a : Nat) : ∀ b, a ≤ b → sAny C X a = true → sAny C X b = true
  | 0, h, q => by rw [show a = 0 by omega] at q; exact q
  | b + 1, h, q => by
    by_cases e : a = b + 1
    · rw [← e]; exact q
    · show (_ || _) = true
      rw [sAny_mono a b (by omega) q]; rfl
set_option maxHeartbeats 1000000 in
set_option maxRecDepth 100000 in
theorem c_X0_anyMet (l : Launch) (g : xG) (h : xS) (I : xI) (n c : Nat) (X : xX) (hc : c < sNc h ∨ c = 4) (p j w : Nat) (hpp : p < sNp h) (hj : j < sSz h p) (h8 : sSz h p ≤ 8) (hw : w < 2) (h3 : sCn h p j w ≤ 3) (hz : I [8, p, j, w] 1 = nI (sCn h p j w)) (hcv : ∀ k, k < sCn h p j w → sCV (I [10, p, j, w, k]) (sSz h p)) : xM l yX0_anyMet (xws yX0_anyMet cX0_anyMet 4 (some FieldType.boolean)) 2 35 g [.ref (ga g [11, c, 0]), .ref (ga g [8, p, j, w])] (xR g (xD h) (sX I c X) (xFh h) n) (some (.int (b01 (sAny (vC I p j w) X (sCn h p j w))))) (xR g (xD h) (sX I c X) (xFh h) n) 0 0 := by
  refine xM.of (by decide) (Nat.le_of_ble_eq_true rfl) ?_
  intro P_ e_ s m_ bl_ mt_ cd_ ls hx hb hr hown hlocks hml hnm hE hK hts hH hS hl
  have hl : lv_has ls 4 [(0, .ref (ga g [11, c, 0])), (1, .ref (ga g [8, p, j, w]))] := hl
  refine lv_iconst (v := 0) hx hb dX0_anyMet_0 (by decide) ?_
  refine lv_istore_n (lv' := [(2, .int 0), (0, .ref (ga g [11, c, 0])), (1, .ref (ga g [8, p, j, w]))]) hx hb dX0_anyMet_1 rfl hl (by decide) rfl (fun ls hl => ?_)
  have L2 : ∀ (fu : Nat) (i : Nat) (H : Heap) (locs : List Loc) (ls : Array Slot), (i ≤ sCn h p j w) → (sAny (vC I p j w) X i = false) → sCn h p j w - i < fu → xR g (xD h) (sX I c X) (xFh h) n H → va_S (gA g) s.heap H locs → lv_has ls 4 [(0, .ref (ga g [11, c, 0])), (1, .ref (ga g [8, p, j, w])), (2, .int (nI i))] → W P_ l e_ { frames := 2, cells := 0, slots := 0, locals := 35 } s m_ ([.ref (ga g [11, c, 0]), .ref (ga g [8, p, j, w])] : List Value).toArray bl_ mt_ cd_ H locs 0 0 (MQ bl_ (xQc g (some (.int (b01 (sAny (vC I p j w) X (sCn h p j w))))) (xR g (xD h) (sX I c X) (xFh h) n)) ([.ref (ga g [11, c, 0]), .ref (ga g [8, p, j, w])] : List Value).toArray s 0 0 (gA g)) (F0 m_ 2 ls []) := by
    intro fu
    induction fu with
    | zero => intro i H locs ls hi ha hfu; exact absurd hfu (Nat.not_lt_zero _)
    | succ fu ih2 =>
      intro i H locs ls hi ha hfu hH hS hl
      refine lv_iload_n hx hb dX0_anyMet_2 rfl (lv_at hl 2 rfl) ?_
      refine lv_aload_n hx hb dX0_anyMet_3 rfl (lv_at hl 1 rfl) ?_
      refine x_get (C := RX2) (T := TX2) (N := 2) (ci := 2) hx hb hts iu2 hown hK hH (id := [8, p, j, w]) (by first | trivial | (simp only [xD]; omega) | (simp [xD]; done) | (simp [xD]; omega)) rfl rfl (by decide) 1 (by decide) (hts _ tw317) (fun _ h9 => h9) rfl (v := .int (nI (sCn h p j w))) (congrArg Value.int hz) dX0_anyMet_4 ?_
      refine lv_icmp_ge (tgt := 36) hx hb dX0_anyMet_7 (by decide) (fun c_7 => ?_) (fun c_7 => ?_)
      · skip
        have c_7 := (nI_leI (a := (sCn h p j w)) (b := i) (by omega) (by omega)).mp c_7
        refine lv_iconst (v := 0) hx hb dX0_anyMet_36 (by decide) ?_
        exact x_zret hx hb hr hlocks hS dX0_anyMet_37 rfl (b01_f (by have e : sCn h p j w = i := (by omega); rw [e]; exact ha)) hH
      · skip
        have c_7 : ¬ _ := fun z_ => c_7 ((nI_leI (a := (sCn h p j w)) (b := i) (by omega) (by omega)).mpr z_)
        refine lv_aload_n hx hb dX0_anyMet_10 rfl (lv_at hl 1 rfl) ?_
        refine lv_iload_n hx hb dX0_anyMet_11 rfl (lv_at hl 2 rfl) ?_
        refine x_V1 hx hb hml hown hE hS hl.1 cyX2_at tw543 (c_X2_at l g h (sX I c X) n p j w i hpp hj hw (by omega) h3 hz) ⟨Nat.le_of_ble_eq_true rfl, Nat.le_of_ble_eq_true rfl⟩ ⟨Nat.le_of_ble_eq_true rfl, Nat.le_of_ble_eq_true rfl⟩ (x_recv hK hH (id := [8, p, j, w]) (by first | trivial | (simp only [xD]; omega) | (simp [xD]; done) | (simp [xD]; omega)) (ci := 2) rfl (by decide) rfl) hH rfl rfl (Nat.le_of_ble_eq_true rfl) dX0_anyMet_12 (fun H locs hH hS => ?_)
        refine lv_astore_n (lv' := [(3, .ref (ga g [10, p, j, w, i])), (0, .ref (ga g [11, c, 0])), (1, .ref (ga g [8, p, j, w])), (2, .int (nI i))]) hx hb dX0_anyMet_15 rfl hl (by decide) rfl (fun ls hl => ?_)
        refine lv_aload_n hx hb dX0_anyMet_16 rfl (lv_at hl 0 rfl) ?_
        refine lv_ifnull hx hb dX0_anyMet_17 ?_
        refine lv_aload_n hx hb dX0_anyMet_20 rfl (lv_at hl 1 rfl) ?_
        refine lv_aload_n hx hb dX0_anyMet_21 rfl (lv_at hl 0 rfl) ?_
        refine x_V1 hx hb hml hown hE hS hl.1 cyX0_isMet tw547 (c_X0_isMet l g h I n c X hc p j w i hpp hj h8 hw (by omega) (hcv i (by omega))) ⟨Nat.le_of_ble_eq_true rfl, Nat.le_of_ble_eq_true rfl⟩ ⟨Nat.le_of_ble_eq_true rfl, Nat.le_of_ble_eq_true rfl⟩ (x_recv hK hH (id := [11, c, 0]) (by first | trivial | (simp only [xD]; omega) | (simp [xD]; done) | (simp [xD]; omega)) (ci := 0) rfl (by decide) rfl) hH rfl rfl (Nat.le_of_ble_eq_true rfl) dX0_anyMet_22 (fun H locs hH hS => ?_)
        refine lv_if_eq (tgt := 30) hx hb dX0_anyMet_25 (by decide) (fun c_25 => ?_) (fun c_25 => ?_)
        · skip
          have hm := (b01_eq0 _).mp c_25
          refine lv_iinc (v := (nI (i + 1))) (lv' := [(2, .int (nI (i + 1))), (3, .ref (ga g [10, p, j, w, i])), (0, .ref (ga g [11, c, 0])), (1, .ref (ga g [8, p, j, w]))]) hx hb dX0_anyMet_30 hl (k := 3) rfl (by first | rfl | exact nI_1 _ | exact nI_add _ _) (by decide) rfl (fun ls hl => ?_)
          refine lv_goto (tgt := 2) hx hb dX0_anyMet_33 (by decide) ?_
          exact ih2 (i + 1) _ _ _ (by omega) (by show (_ || _) = false; rw [ha, show sMet (vC I p j w i) X = false from hm]; rfl) (by omega) hH hS (lv_sub hl [2, 3, 0] rfl)
        · skip
          have hm : sMet (I [10, p, j, w, i]) X = true := by cases hq : sMet (I [10, p, j, w, i]) X; exact absurd ((b01_eq0 _).mpr hq) c_25; rfl
          refine lv_iconst (v := 1) hx hb dX0_anyMet_28 (by decide) ?_
          exact x_zret hx hb hr hlocks hS dX0_anyMet_29 rfl (b01_t (sAny_mono (i + 1) _ (by omega) (by show (_ || _) = true; rw [show sMet (vC I p j w i) X = true from hm]; cases sAny (vC I p j w) X i <;> rfl))) hH
  exact L2 _ 0 _ _ _ (by omega) rfl (Nat.lt_succ_self _) hH hS (lv_sub hl [1, 2, 0] rfl)
