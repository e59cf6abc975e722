/-! CONTRACTS: the model -/
set_option maxHeartbeats 1000000 in
set_option maxRecDepth 100000 in
theorem c_X7_holdsNow (l : Launch) (g : xG) (h : xS) (I : xI) (n c : Nat) (X : xX) (hc : c < 4) (p : Nat) (hpp : p < 3) (hpo : I [24, 11] c = nI p) (hA : mA h I p) (hW : xWp h I p) (j : Nat) (hj : j < sSz h p) (w k : Nat) (hw : w < 2) (hk : k < sCn h p j w)  : xM l yX7_holdsNow (xws yX7_holdsNow cX7_holdsNow 6 (some FieldType.boolean)) 1 12 g [.ref (ga g [20]), .int (nI c), .int (nI j), .int (nI (3 * w + k))] (xR g (xD h) (mW I c X) (xFh h) n) (some (.int (b01 (sMet (I [10, p, j, w, k]) X)))) (xR g (xD h) (mW I c X) (xFh h) n) 0 0 := by
  refine xM.of (by decide) (Nat.le_of_ble_eq_true rfl) ?_
  intro P_ e_ s m_ bl_ mt_ cd_ ls hx hb hr hown hlocks hml hnm hE hK hts hH hS hl
  have hl : lv_has ls 6 [(0, .ref (ga g [20])), (1, .int (nI c)), (2, .int (nI j)), (3, .int (nI (3 * w + k)))] := hl
  have h8 := hW.1
  have h3 := ((hW.2.2.2 j hj).2.2 w hw).2.1
  have hs := (hA.2 j hj).2.2.2.2.2 w hw
  have hq := hs.2 k hk
  rcases ((hW.2.2.2 j hj).2.2 w hw).2.2 k hk with ⟨h0 | h0, a, ha, h1⟩ | h0 | ⟨h0, a, ha, h1⟩ | h0
  · skip
    have hcl : (I [10, p, j, w, k] 1).toNatClampNeg = a := by rw [h1]; exact nI_clamp (by omega)
    refine lv_aload_n hx hb dX7_holdsNow_0 rfl (lv_at hl 0 rfl) ?_
    refine x_get (C := RX7) (T := TX7) (N := 24) (ci := 7) hx hb hts iu7 hown hK hH (id := [20]) (by first | trivial | (simp only [xD]; omega) | (simp [xD]; done) | (simp [xD]; omega)) rfl rfl (by decide) 11 (by decide) (hts _ tw850) (fun _ h9 => h9) rfl (v := .ref (ga g [24, 11])) rfl dX7_holdsNow_1 ?_
    refine lv_iload_n hx hb dX7_holdsNow_4 rfl (lv_at hl 1 rfl) ?_
    refine x_iald hx hb hK hH (id := [24, 11]) (by first | trivial | (simp only [xD]; omega) | (simp [xD]; done) | (simp [xD]; omega)) (L := 4) rfl (r := (I [24, 11])) rfl c rfl (by omega) (by decide) dX7_holdsNow_5 ?_
    rw [show (I [24, 11] c) = (nI p) from hpo]
    refine lv_istore (lv' := [(4, .int (nI p)), (0, .ref (ga g [20])), (1, .int (nI c)), (2, .int (nI j)), (3, .int (nI (3 * w + k)))]) hx hb dX7_holdsNow_6 hl (by decide) rfl (fun ls hl => ?_)
    refine lv_aload_n hx hb dX7_holdsNow_8 rfl (lv_at hl 1 rfl) ?_
    refine x_get (C := RX7) (T := TX7) (N := 24) (ci := 7) hx hb hts iu7 hown hK hH (id := [20]) (by first | trivial | (simp only [xD]; omega) | (simp [xD]; done) | (simp [xD]; omega)) rfl rfl (by decide) 5 (by decide) (hts _ tw844) (fun _ h9 => h9) rfl (v := .ref (ga g [21, 5])) rfl dX7_holdsNow_9 ?_
    refine lv_iload hx hb dX7_holdsNow_12 (lv_at hl 0 rfl) ?_
    refine x_aald hx hb hK hH (id := [21, 5]) (by first | trivial | (simp only [xD]; omega) | (simp [xD]; done) | (simp [xD]; omega)) 10 (L := 3) rfl (by decide) p rfl (by omega) (by decide) (v := .ref (ga g [22, 5, p])) (by show rq _ (if _ then _ else _) = _; rw [if_pos (show p < xLn 5 by show _ < 3; omega)]; rfl) dX7_holdsNow_14 ?_
    refine lv_iload_n hx hb dX7_holdsNow_15 rfl (lv_at hl 3 rfl) ?_
    refine x_aald hx hb hK hH (id := [22, 5, p]) (by first | trivial | (simp only [xD]; omega) | (simp [xD]; done) | (simp [xD]; omega)) 7 (L := 8) rfl (by decide) j rfl (by omega) (by decide) (v := .ref (ga g [23, 5, p, j])) (by show rq _ (if _ then _ else _) = _; rw [if_pos (by omega)]; rfl) dX7_holdsNow_16 ?_
    refine lv_iload_n hx hb dX7_holdsNow_17 rfl (lv_at hl 4 rfl) ?_
    refine x_iald hx hb hK hH (id := [23, 5, p, j]) (by first | trivial | (simp only [xD]; omega) | (simp [xD]; done) | (simp [xD]; omega)) (L := 6) rfl (r := (I [23, 5, p, j])) rfl ((3 * w + k)) rfl (by omega) (by decide) dX7_holdsNow_18 ?_
    rw [show (I [23, 5, p, j] (3 * w + k)) = (nI a) from (hq.2.1.trans h1)]
    refine lv_istore (lv' := [(5, .int (nI a)), (4, .int (nI p)), (0, .ref (ga g [20])), (1, .int (nI c)), (2, .int (nI j)), (3, .int (nI (3 * w + k)))]) hx hb dX7_holdsNow_19 hl (by decide) rfl (fun ls hl => ?_)
    refine lv_aload_n hx hb dX7_holdsNow_21 rfl (lv_at hl 2 rfl) ?_
    refine x_get (C := RX7) (T := TX7) (N := 24) (ci := 7) hx hb hts iu7 hown hK hH (id := [20]) (by first | trivial | (simp only [xD]; omega) | (simp [xD]; done) | (simp [xD]; omega)) rfl rfl (by decide) 4 (by decide) (hts _ tw843) (fun _ h9 => h9) rfl (v := .ref (ga g [21, 4])) rfl dX7_holdsNow_22 ?_
    refine lv_iload hx hb dX7_holdsNow_25 (lv_at hl 1 rfl) ?_
    refine x_aald hx hb hK hH (id := [21, 4]) (by first | trivial | (simp only [xD]; omega) | (simp [xD]; done) | (simp [xD]; omega)) 11 (L := 3) rfl (by decide) p rfl (by omega) (by decide) (v := .ref (ga g [22, 4, p])) (by show rq _ (if _ then _ else _) = _; rw [if_pos (show p < xLn 4 by show _ < 3; omega)]; rfl) dX7_holdsNow_27 ?_
    refine lv_iload_n hx hb dX7_holdsNow_28 rfl (lv_at hl 4 rfl) ?_
    refine x_aald hx hb hK hH (id := [22, 4, p]) (by first | trivial | (simp only [xD]; omega) | (simp [xD]; done) | (simp [xD]; omega)) 8 (L := 8) rfl (by decide) j rfl (by omega) (by decide) (v := .ref (ga g [23, 4, p, j])) (by show rq _ (if _ then _ else _) = _; rw [if_pos (by omega)]; rfl) dX7_holdsNow_29 ?_
    refine lv_iload_n hx hb dX7_holdsNow_30 rfl (lv_at hl 5 rfl) ?_
    refine x_cald hx hb hK hH (id := [23, 4, p, j]) (by first | trivial | (simp only [xD]; omega) | (simp [xD]; done) | (simp [xD]; omega)) (L := 6) rfl (r := (I [23, 4, p, j])) rfl ((3 * w + k)) rfl (by omega) (by decide) dX7_holdsNow_31 ?_
    rw [show (I [23, 4, p, j] (3 * w + k)) = 100 from (hq.1.trans h0)]
    refine lv_tableIn (tgt := 88) hx hb dX7_holdsNow_32 (by decide) (by decide) rfl (by decide) ?_
    refine lv_aload_n hx hb dX7_holdsNow_88 rfl (lv_at hl 2 rfl) ?_
    refine x_get (C := RX7) (T := TX7) (N := 24) (ci := 7) hx hb hts iu7 hown hK hH (id := [20]) (by first | trivial | (simp only [xD]; omega) | (simp [xD]; done) | (simp [xD]; omega)) rfl rfl (by decide) 12 (by decide) (hts _ tw851) (fun _ h9 => h9) rfl (v := .ref (ga g [21, 12])) rfl dX7_holdsNow_89 ?_
    refine lv_iload_n hx hb dX7_holdsNow_92 rfl (lv_at hl 3 rfl) ?_
    refine x_aald hx hb hK hH (id := [21, 12]) (by first | trivial | (simp only [xD]; omega) | (simp [xD]; done) | (simp [xD]; omega)) 7 (L := 4) rfl (by decide) c rfl (by omega) (by decide) (v := .ref (ga g [22, 12, c])) (by show rq _ (if _ then _ else _) = _; rw [if_pos (show c < xLn 12 by show _ < 4; omega)]; rfl) dX7_holdsNow_93 ?_
    refine lv_iload hx hb dX7_holdsNow_94 (lv_at hl 0 rfl) ?_
    refine x_iald hx hb hK hH (id := [22, 12, c]) (by first | trivial | (simp only [xD]; omega) | (simp [xD]; done) | (simp [xD]; omega)) (L := 4) rfl (r := (X 1)) (mW_r1 _ _ _) a rfl (by omega) (by decide) dX7_holdsNow_96 ?_
    refine lv_aload_n hx hb dX7_holdsNow_97 rfl (lv_at hl 2 rfl) ?_
    refine x_get (C := RX7) (T := TX7) (N := 24) (ci := 7) hx hb hts iu7 hown hK hH (id := [20]) (by first | trivial | (simp only [xD]; omega) | (simp [xD]; done) | (simp [xD]; omega)) rfl rfl (by decide) 6 (by decide) (hts _ tw845) (fun _ h9 => h9) rfl (v := .ref (ga g [21, 6])) rfl dX7_holdsNow_98 ?_
    refine lv_iload hx hb dX7_holdsNow_101 (lv_at hl 1 rfl) ?_
    refine x_aald hx hb hK hH (id := [21, 6]) (by first | trivial | (simp only [xD]; omega) | (simp [xD]; done) | (simp [xD]; omega)) 10 (L := 3) rfl (by decide) p rfl (by omega) (by decide) (v := .ref (ga g [22, 6, p])) (by show rq _ (if _ then _ else _) = _; rw [if_pos (show p < xLn 6 by show _ < 3; omega)]; rfl) dX7_holdsNow_103 ?_
    refine lv_iload_n hx hb dX7_holdsNow_104 rfl (lv_at hl 4 rfl) ?_
    refine x_aald hx hb hK hH (id := [22, 6, p]) (by first | trivial | (simp only [xD]; omega) | (simp [xD]; done) | (simp [xD]; omega)) 7 (L := 8) rfl (by decide) j rfl (by omega) (by decide) (v := .ref (ga g [23, 6, p, j])) (by show rq _ (if _ then _ else _) = _; rw [if_pos (by omega)]; rfl) dX7_holdsNow_105 ?_
    refine lv_iload_n hx hb dX7_holdsNow_106 rfl (lv_at hl 5 rfl) ?_
    refine x_iald hx hb hK hH (id := [23, 6, p, j]) (by first | trivial | (simp only [xD]; omega) | (simp [xD]; done) | (simp [xD]; omega)) (L := 6) rfl (r := (I [23, 6, p, j])) rfl ((3 * w + k)) rfl (by omega) (by decide) dX7_holdsNow_107 ?_
    rw [show (I [23, 6, p, j] (3 * w + k)) = (I [10, p, j, w, k] 2) from hq.2.2]
    refine lv_icmp_lt (tgt := 115) hx hb dX7_holdsNow_108 (by decide) (fun c_108 => ?_) (fun c_108 => ?_)
    · skip
      refine lv_iconst (v := 0) hx hb dX7_holdsNow_115 (by decide) ?_
      exact x_zret hx hb hr hlocks hS dX7_holdsNow_116 rfl (b01_f (by rw [(sMet_d h0), hcl]; exact decide_eq_false (i_lt_nle c_108))) hH
    · skip
      refine lv_iconst (v := 1) hx hb dX7_holdsNow_111 (by decide) ?_
      refine lv_goto (tgt := 116) hx hb dX7_holdsNow_112 (by decide) ?_
      exact x_zret hx hb hr hlocks hS dX7_holdsNow_116 rfl (b01_t (by rw [(sMet_d h0), hcl]; exact decide_eq_true (i_nlt c_108))) hH
  · skip
    have hcl : (I [10, p, j, w, k] 1).toNatClampNeg = a := by rw [h1]; exact nI_clamp (by omega)
    refine lv_aload_n hx hb dX7_holdsNow_0 rfl (lv_at hl 0 rfl) ?_
    refine x_get (C := RX7) (T := TX7) (N := 24) (ci := 7) hx hb hts iu7 hown hK hH (id := [20]) (by first | trivial | (simp only [xD]; omega) | (simp [xD]; done) | (simp [xD]; omega)) rfl rfl (by decide) 11 (by decide) (hts _ tw850) (fun _ h9 => h9) rfl (v := .ref (ga g [24, 11])) rfl dX7_holdsNow_1 ?_
    refine lv_iload_n hx hb dX7_holdsNow_4 rfl (lv_at hl 1 rfl) ?_
    refine x_iald hx hb hK hH (id := [24, 11]) (by first | trivial | (simp only [xD]; omega) | (simp [xD]; done) | (simp [xD]; omega)) (L := 4) rfl (r := (I [24, 11])) rfl c rfl (by omega) (by decide) dX7_holdsNow_5 ?_
    rw [show (I [24, 11] c) = (nI p) from hpo]
    refine lv_istore (lv' := [(4, .int (nI p)), (0, .ref (ga g [20])), (1, .int (nI c)), (2, .int (nI j)), (3, .int (nI (3 * w + k)))]) hx hb dX7_holdsNow_6 hl (by decide) rfl (fun ls hl => ?_)
    refine lv_aload_n hx hb dX7_holdsNow_8 rfl (lv_at hl 1 rfl) ?_
    refine x_get (C := RX7) (T := TX7) (N := 24) (ci := 7) hx hb hts iu7 hown hK hH (id := [20]) (by first | trivial | (simp only [xD]; omega) | (simp [xD]; done) | (simp [xD]; omega)) rfl rfl (by decide) 5 (by decide) (hts _ tw844) (fun _ h9 => h9) rfl (v := .ref (ga g [21, 5])) rfl dX7_holdsNow_9 ?_
    refine lv_iload hx hb dX7_holdsNow_12 (lv_at hl 0 rfl) ?_
    refine x_aald hx hb hK hH (id := [21, 5]) (by first | trivial | (simp only [xD]; omega) | (simp [xD]; done) | (simp [xD]; omega)) 10 (L := 3) rfl (by decide) p rfl (by omega) (by decide) (v := .ref (ga g [22, 5, p])) (by show rq _ (if _ then _ else _) = _; rw [if_pos (show p < xLn 5 by show _ < 3; omega)]; rfl) dX7_holdsNow_14 ?_
    refine lv_iload_n hx hb dX7_holdsNow_15 rfl (lv_at hl 3 rfl) ?_
    refine x_aald hx hb hK hH (id := [22, 5, p]) (by first | trivial | (simp only [xD]; omega) | (simp [xD]; done) | (simp [xD]; omega)) 7 (L := 8) rfl (by decide) j rfl (by omega) (by decide) (v := .ref (ga g [23, 5, p, j])) (by show rq _ (if _ then _ else _) = _; rw [if_pos (by omega)]; rfl) dX7_holdsNow_16 ?_
    refine lv_iload_n hx hb dX7_holdsNow_17 rfl (lv_at hl 4 rfl) ?_
    refine x_iald hx hb hK hH (id := [23, 5, p, j]) (by first | trivial | (simp only [xD]; omega) | (simp [xD]; done) | (simp [xD]; omega)) (L := 6) rfl (r := (I [23, 5, p, j])) rfl ((3 * w + k)) rfl (by omega) (by decide) dX7_holdsNow_18 ?_
    rw [show (I [23, 5, p, j] (3 * w + k)) = (nI a) from (hq.2.1.trans h1)]
    refine lv_istore (lv' := [(5, .int (nI a)), (4, .int (nI p)), (0, .ref (ga g [20])), (1, .int (nI c)), (2, .int (nI j)), (3, .int (nI (3 * w + k)))]) hx hb dX7_holdsNow_19 hl (by decide) rfl (fun ls hl => ?_)
    refine lv_aload_n hx hb dX7_holdsNow_21 rfl (lv_at hl 2 rfl) ?_
    refine x_get (C := RX7) (T := TX7) (N := 24) (ci := 7) hx hb hts iu7 hown hK hH (id := [20]) (by first | trivial | (simp only [xD]; omega) | (simp [xD]; done) | (simp [xD]; omega)) rfl rfl (by decide) 4 (by decide) (hts _ tw843) (fun _ h9 => h9) rfl (v := .ref (ga g [21, 4])) rfl dX7_holdsNow_22 ?_
    refine lv_iload hx hb dX7_holdsNow_25 (lv_at hl 1 rfl) ?_
    refine x_aald hx hb hK hH (id := [21, 4]) (by first | trivial | (simp only [xD]; omega) | (simp [xD]; done) | (simp [xD]; omega)) 11 (L := 3) rfl (by decide) p rfl (by omega) (by decide) (v := .ref (ga g [22, 4, p])) (by show rq _ (if _ then _ else _) = _; rw [if_pos (show p < xLn 4 by show _ < 3; omega)]; rfl) dX7_holdsNow_27 ?_
    refine lv_iload_n hx hb dX7_holdsNow_28 rfl (lv_at hl 4 rfl) ?_
    refine x_aald hx hb hK hH (id := [22, 4, p]) (by first | trivial | (simp only [xD]; omega) | (simp [xD]; done) | (simp [xD]; omega)) 8 (L := 8) rfl (by decide) j rfl (by omega) (by decide) (v := .ref (ga g [23, 4, p, j])) (by show rq _ (if _ then _ else _) = _; rw [if_pos (by omega)]; rfl) dX7_holdsNow_29 ?_
    refine lv_iload_n hx hb dX7_holdsNow_30 rfl (lv_at hl 5 rfl) ?_
    refine x_cald hx hb hK hH (id := [23, 4, p, j]) (by first | trivial | (simp only [xD]; omega) | (simp [xD]; done) | (simp [xD]; omega)) (L := 6) rfl (r := (I [23, 4, p, j])) rfl ((3 * w + k)) rfl (by omega) (by decide) dX7_holdsNow_31 ?_
    rw [show (I [23, 4, p, j] (3 * w + k)) = 108 from (hq.1.trans h0)]
    refine lv_tableIn (tgt := 117) hx hb dX7_holdsNow_32 (by decide) (by decide) rfl (by decide) ?_
    refine lv_aload_n hx hb dX7_holdsNow_117 rfl (lv_at hl 2 rfl) ?_
    refine x_get (C := RX7) (T := TX7) (N := 24) (ci := 7) hx hb hts iu7 hown hK hH (id := [20]) (by first | trivial | (simp only [xD]; omega) | (simp [xD]; done) | (simp [xD]; omega)) rfl rfl (by decide) 12 (by decide) (hts _ tw851) (fun _ h9 => h9) rfl (v := .ref (ga g [21, 12])) rfl dX7_holdsNow_118 ?_
    refine lv_iload_n hx hb dX7_holdsNow_121 rfl (lv_at hl 3 rfl) ?_
    refine x_aald hx hb hK hH (id := [21, 12]) (by first | trivial | (simp only [xD]; omega) | (simp [xD]; done) | (simp [xD]; omega)) 7 (L := 4) rfl (by decide) c rfl (by omega) (by decide) (v := .ref (ga g [22, 12, c])) (by show rq _ (if _ then _ else _) = _; rw [if_pos (show c < xLn 12 by show _ < 4; omega)]; rfl) dX7_holdsNow_122 ?_
    refine lv_iload hx hb dX7_holdsNow_123 (lv_at hl 0 rfl) ?_
    refine x_iald hx hb hK hH (id := [22, 12, c]) (by first | trivial | (simp only [xD]; omega) | (simp [xD]; done) | (simp [xD]; omega)) (L := 4) rfl (r := (X 1)) (mW_r1 _ _ _) a rfl (by omega) (by decide) dX7_holdsNow_125 ?_
    refine lv_aload_n hx hb dX7_holdsNow_126 rfl (lv_at hl 2 rfl) ?_
    refine x_get (C := RX7) (T := TX7) (N := 24) (ci := 7) hx hb hts iu7 hown hK hH (id := [20]) (by first | trivial | (simp only [xD]; omega) | (simp [xD]; done) | (simp [xD]; omega)) rfl rfl (by decide) 6 (by decide) (hts _ tw845) (fun _ h9 => h9) rfl (v := .ref (ga g [21, 6])) rfl dX7_holdsNow_127 ?_
    refine lv_iload hx hb dX7_holdsNow_130 (lv_at hl 1 rfl) ?_
    refine x_aald hx hb hK hH (id := [21, 6]) (by first | trivial | (simp only [xD]; omega) | (simp [xD]; done) | (simp [xD]; omega)) 10 (L := 3) rfl (by decide) p rfl (by omega) (by decide) (v := .ref (ga g [22, 6, p])) (by show rq _ (if _ then _ else _) = _; rw [if_pos (show p < xLn 6 by show _ < 3; omega)]; rfl) dX7_holdsNow_132 ?_
    refine lv_iload_n hx hb dX7_holdsNow_133 rfl (lv_at hl 4 rfl) ?_
    refine x_aald hx hb hK hH (id := [22, 6, p]) (by first | trivial | (simp only [xD]; omega) | (simp [xD]; done) | (simp [xD]; omega)) 7 (L := 8) rfl (by decide) j rfl (by omega) (by decide) (v := .ref (ga g [23, 6, p, j])) (by show rq _ (if _ then _ else _) = _; rw [if_pos (by omega)]; rfl) dX7_holdsNow_134 ?_
    refine lv_iload_n hx hb dX7_holdsNow_135 rfl (lv_at hl 5 rfl) ?_
    refine x_iald hx hb hK hH (id := [23, 6, p, j]) (by first | trivial | (simp only [xD]; omega) | (simp [xD]; done) | (simp [xD]; omega)) (L := 6) rfl (r := (I [23, 6, p, j])) rfl ((3 * w + k)) rfl (by omega) (by decide) dX7_holdsNow_136 ?_
    rw [show (I [23, 6, p, j] (3 * w + k)) = (I [10, p, j, w, k] 2) from hq.2.2]
    refine lv_icmp_ge (tgt := 144) hx hb dX7_holdsNow_137 (by decide) (fun c_137 => ?_) (fun c_137 => ?_)
    · skip
      refine lv_iconst (v := 0) hx hb dX7_holdsNow_144 (by decide) ?_
      exact x_zret hx hb hr hlocks hS dX7_holdsNow_145 rfl (b01_f (by rw [(sMet_l h0), hcl]; exact decide_eq_false (i_ge c_137))) hH
    · skip
      refine lv_iconst (v := 1) hx hb dX7_holdsNow_140 (by decide) ?_
      refine lv_goto (tgt := 145) hx hb dX7_holdsNow_141 (by decide) ?_
      exact x_zret hx hb hr hlocks hS dX7_holdsNow_145 rfl (b01_t (by rw [(sMet_l h0), hcl]; exact decide_eq_true (i_nle (fun z_ => c_137 z_)))) hH
  · skip
    refine lv_aload_n hx hb dX7_holdsNow_0 rfl (lv_at hl 0 rfl) ?_
    refine x_get (C := RX7) (T := TX7) (N := 24) (ci := 7) hx hb hts iu7 hown hK hH (id := [20]) (by first | trivial | (simp only [xD]; omega) | (simp [xD]; done) | (simp [xD]; omega)) rfl rfl (by decide) 11 (by decide) (hts _ tw850) (fun _ h9 => h9) rfl (v := .ref (ga g [24, 11])) rfl dX7_holdsNow_1 ?_
    refine lv_iload_n hx hb dX7_holdsNow_4 rfl (lv_at hl 1 rfl) ?_
    refine x_iald hx hb hK hH (id := [24, 11]) (by first | trivial | (simp only [xD]; omega) | (simp [xD]; done) | (simp [xD]; omega)) (L := 4) rfl (r := (I [24, 11])) rfl c rfl (by omega) (by decide) dX7_holdsNow_5 ?_
    rw [show (I [24, 11] c) = (nI p) from hpo]
    refine lv_istore (lv' := [(4, .int (nI p)), (0, .ref (ga g [20])), (1, .int (nI c)), (2, .int (nI j)), (3, .int (nI (3 * w + k)))]) hx hb dX7_holdsNow_6 hl (by decide) rfl (fun ls hl => ?_)
    refine lv_aload_n hx hb dX7_holdsNow_8 rfl (lv_at hl 1 rfl) ?_
    refine x_get (C := RX7) (T := TX7) (N := 24) (ci := 7) hx hb hts iu7 hown hK hH (id := [20]) (by first | trivial | (simp only [xD]; omega) | (simp [xD]; done) | (simp [xD]; omega)) rfl rfl (by decide) 5 (by decide) (hts _ tw844) (fun _ h9 => h9) rfl (v := .ref (ga g [21, 5])) rfl dX7_holdsNow_9 ?_
    refine lv_iload hx hb dX7_holdsNow_12 (lv_at hl 0 rfl) ?_
    refine x_aald hx hb hK hH (id := [21, 5]) (by first | trivial | (simp only [xD]; omega) | (simp [xD]; done) | (simp [xD]; omega)) 10 (L := 3) rfl (by decide) p rfl (by omega) (by decide) (v := .ref (ga g [22, 5, p])) (by show rq _ (if _ then _ else _) = _; rw [if_pos (show p < xLn 5 by show _ < 3; omega)]; rfl) dX7_holdsNow_14 ?_
    refine lv_iload_n hx hb dX7_holdsNow_15 rfl (lv_at hl 3 rfl) ?_
    refine x_aald hx hb hK hH (id := [22, 5, p]) (by first | trivial | (simp only [xD]; omega) | (simp [xD]; done) | (simp [xD]; omega)) 7 (L := 8) rfl (by decide) j rfl (by omega) (by decide) (v := .ref (ga g [23, 5, p, j])) (by show rq _ (if _ then _ else _) = _; rw [if_pos (by omega)]; rfl) dX7_holdsNow_16 ?_
    refine lv_iload_n hx hb dX7_holdsNow_17 rfl (lv_at hl 4 rfl) ?_
    refine x_iald hx hb hK hH (id := [23, 5, p, j]) (by first | trivial | (simp only [xD]; omega) | (simp [xD]; done) | (simp [xD]; omega)) (L := 6) rfl (r := (I [23, 5, p, j])) rfl ((3 * w + k)) rfl (by omega) (by decide) dX7_holdsNow_18 ?_
    rw [show (I [23, 5, p, j] (3 * w + k)) = (I [10, p, j, w, k] 1) from hq.2.1]
    refine lv_istore (lv' := [(5, .int (I [10, p, j, w, k] 1)), (4, .int (nI p)), (0, .ref (ga g [20])), (1, .int (nI c)), (2, .int (nI j)), (3, .int (nI (3 * w + k)))]) hx hb dX7_holdsNow_19 hl (by decide) rfl (fun ls hl => ?_)
    refine lv_aload_n hx hb dX7_holdsNow_21 rfl (lv_at hl 2 rfl) ?_
    refine x_get (C := RX7) (T := TX7) (N := 24) (ci := 7) hx hb hts iu7 hown hK hH (id := [20]) (by first | trivial | (simp only [xD]; omega) | (simp [xD]; done) | (simp [xD]; omega)) rfl rfl (by decide) 4 (by decide) (hts _ tw843) (fun _ h9 => h9) rfl (v := .ref (ga g [21, 4])) rfl dX7_holdsNow_22 ?_
    refine lv_iload hx hb dX7_holdsNow_25 (lv_at hl 1 rfl) ?_
    refine x_aald hx hb hK hH (id := [21, 4]) (by first | trivial | (simp only [xD]; omega) | (simp [xD]; done) | (simp [xD]; omega)) 11 (L := 3) rfl (by decide) p rfl (by omega) (by decide) (v := .ref (ga g [22, 4, p])) (by show rq _ (if _ then _ else _) = _; rw [if_pos (show p < xLn 4 by show _ < 3; omega)]; rfl) dX7_holdsNow_27 ?_
    refine lv_iload_n hx hb dX7_holdsNow_28 rfl (lv_at hl 4 rfl) ?_
    refine x_aald hx hb hK hH (id := [22, 4, p]) (by first | trivial | (simp only [xD]; omega) | (simp [xD]; done) | (simp [xD]; omega)) 8 (L := 8) rfl (by decide) j rfl (by omega) (by decide) (v := .ref (ga g [23, 4, p, j])) (by show rq _ (if _ then _ else _) = _; rw [if_pos (by omega)]; rfl) dX7_holdsNow_29 ?_
    refine lv_iload_n hx hb dX7_holdsNow_30 rfl (lv_at hl 5 rfl) ?_
    refine x_cald hx hb hK hH (id := [23, 4, p, j]) (by first | trivial | (simp only [xD]; omega) | (simp [xD]; done) | (simp [xD]; omega)) (L := 6) rfl (r := (I [23, 4, p, j])) rfl ((3 * w + k)) rfl (by omega) (by decide) dX7_holdsNow_31 ?_
    rw [show (I [23, 4, p, j] (3 * w + k)) = 101 from (hq.1.trans h0)]
    refine lv_tableIn (tgt := 146) hx hb dX7_holdsNow_32 (by decide) (by decide) rfl (by decide) ?_
    refine lv_aload_n hx hb dX7_holdsNow_146 rfl (lv_at hl 2 rfl) ?_
    refine x_get (C := RX7) (T := TX7) (N := 24) (ci := 7) hx hb hts iu7 hown hK hH (id := [20]) (by first | trivial | (simp only [xD]; omega) | (simp [xD]; done) | (simp [xD]; omega)) rfl rfl (by decide) 21 (by decide) (hts _ tw860) (fun _ h9 => h9) rfl (v := .int (X 0 8)) (congrArg Value.int (mW_c8 _ _ _)) dX7_holdsNow_147 ?_
    refine lv_iload hx hb dX7_holdsNow_150 (lv_at hl 0 rfl) ?_
    refine lv_icmp_ne (tgt := 159) hx hb dX7_holdsNow_152 (by decide) (fun c_152 => ?_) (fun c_152 => ?_)
    · skip
      refine lv_iconst (v := 0) hx hb dX7_holdsNow_159 (by decide) ?_
      exact x_zret hx hb hr hlocks hS dX7_holdsNow_160 rfl (b01_f (by rw [(sMet_e h0)]; exact decide_eq_false (c_152))) hH
    · skip
      refine lv_iconst (v := 1) hx hb dX7_holdsNow_155 (by decide) ?_
      refine lv_goto (tgt := 160) hx hb dX7_holdsNow_156 (by decide) ?_
      exact x_zret hx hb hr hlocks hS dX7_holdsNow_160 rfl (b01_t (by rw [(sMet_e h0)]; exact decide_eq_true (c_152))) hH
  · skip
    have hcl : (I [10, p, j, w, k] 1).toNatClampNeg = a := by rw [h1]; exact nI_clamp (by omega)
    refine lv_aload_n hx hb dX7_holdsNow_0 rfl (lv_at hl 0 rfl) ?_
    refine x_get (C := RX7) (T := TX7) (N := 24) (ci := 7) hx hb hts iu7 hown hK hH (id := [20]) (by first | trivial | (simp only [xD]; omega) | (simp [xD]; done) | (simp [xD]; omega)) rfl rfl (by decide) 11 (by decide) (hts _ tw850) (fun _ h9 => h9) rfl (v := .ref (ga g [24, 11])) rfl dX7_holdsNow_1 ?_
    refine lv_iload_n hx hb dX7_holdsNow_4 rfl (lv_at hl 1 rfl) ?_
    refine x_iald hx hb hK hH (id := [24, 11]) (by first | trivial | (simp only [xD]; omega) | (simp [xD]; done) | (simp [xD]; omega)) (L := 4) rfl (r := (I [24, 11])) rfl c rfl (by omega) (by decide) dX7_holdsNow_5 ?_
    rw [show (I [24, 11] c) = (nI p) from hpo]
    refine lv_istore (lv' := [(4, .int (nI p)), (0, .ref (ga g [20])), (1, .int (nI c)), (2, .int (nI j)), (3, .int (nI (3 * w + k)))]) hx hb dX7_holdsNow_6 hl (by decide) rfl (fun ls hl => ?_)
    refine lv_aload_n hx hb dX7_holdsNow_8 rfl (lv_at hl 1 rfl) ?_
    refine x_get (C := RX7) (T := TX7) (N := 24) (ci := 7) hx hb hts iu7 hown hK hH (id := [20]) (by first | trivial | (simp only [xD]; omega) | (simp [xD]; done) | (simp [xD]; omega)) rfl rfl (by decide) 5 (by decide) (hts _ tw844) (fun _ h9 => h9) rfl (v := .ref (ga g [21, 5])) rfl dX7_holdsNow_9 ?_
    refine lv_iload hx hb dX7_holdsNow_12 (lv_at hl 0 rfl) ?_
    refine x_aald hx hb hK hH (id := [21, 5]) (by first | trivial | (simp only [xD]; omega) | (simp [xD]; done) | (simp [xD]; omega)) 10 (L := 3) rfl (by decide) p rfl (by omega) (by decide) (v := .ref (ga g [22, 5, p])) (by show rq _ (if _ then _ else _) = _; rw [if_pos (show p < xLn 5 by show _ < 3; omega)]; rfl) dX7_holdsNow_14 ?_
    refine lv_iload_n hx hb dX7_holdsNow_15 rfl (lv_at hl 3 rfl) ?_
    refine x_aald hx hb hK hH (id := [22, 5, p]) (by first | trivial | (simp only [xD]; omega) | (simp [xD]; done) | (simp [xD]; omega)) 7 (L := 8) rfl (by decide) j rfl (by omega) (by decide) (v := .ref (ga g [23, 5, p, j])) (by show rq _ (if _ then _ else _) = _; rw [if_pos (by omega)]; rfl) dX7_holdsNow_16 ?_
    refine lv_iload_n hx hb dX7_holdsNow_17 rfl (lv_at hl 4 rfl) ?_
    refine x_iald hx hb hK hH (id := [23, 5, p, j]) (by first | trivial | (simp only [xD]; omega) | (simp [xD]; done) | (simp [xD]; omega)) (L := 6) rfl (r := (I [23, 5, p, j])) rfl ((3 * w + k)) rfl (by omega) (by decide) dX7_holdsNow_18 ?_
    rw [show (I [23, 5, p, j] (3 * w + k)) = (nI a) from (hq.2.1.trans h1)]
    refine lv_istore (lv' := [(5, .int (nI a)), (4, .int (nI p)), (0, .ref (ga g [20])), (1, .int (nI c)), (2, .int (nI j)), (3, .int (nI (3 * w + k)))]) hx hb dX7_holdsNow_19 hl (by decide) rfl (fun ls hl => ?_)
    refine lv_aload_n hx hb dX7_holdsNow_21 rfl (lv_at hl 2 rfl) ?_
    refine x_get (C := RX7) (T := TX7) (N := 24) (ci := 7) hx hb hts iu7 hown hK hH (id := [20]) (by first | trivial | (simp only [xD]; omega) | (simp [xD]; done) | (simp [xD]; omega)) rfl rfl (by decide) 4 (by decide) (hts _ tw843) (fun _ h9 => h9) rfl (v := .ref (ga g [21, 4])) rfl dX7_holdsNow_22 ?_
    refine lv_iload hx hb dX7_holdsNow_25 (lv_at hl 1 rfl) ?_
    refine x_aald hx hb hK hH (id := [21, 4]) (by first | trivial | (simp only [xD]; omega) | (simp [xD]; done) | (simp [xD]; omega)) 11 (L := 3) rfl (by decide) p rfl (by omega) (by decide) (v := .ref (ga g [22, 4, p])) (by show rq _ (if _ then _ else _) = _; rw [if_pos (show p < xLn 4 by show _ < 3; omega)]; rfl) dX7_holdsNow_27 ?_
    refine lv_iload_n hx hb dX7_holdsNow_28 rfl (lv_at hl 4 rfl) ?_
    refine x_aald hx hb hK hH (id := [22, 4, p]) (by first | trivial | (simp only [xD]; omega) | (simp [xD]; done) | (simp [xD]; omega)) 8 (L := 8) rfl (by decide) j rfl (by omega) (by decide) (v := .ref (ga g [23, 4, p, j])) (by show rq _ (if _ then _ else _) = _; rw [if_pos (by omega)]; rfl) dX7_holdsNow_29 ?_
    refine lv_iload_n hx hb dX7_holdsNow_30 rfl (lv_at hl 5 rfl) ?_
    refine x_cald hx hb hK hH (id := [23, 4, p, j]) (by first | trivial | (simp only [xD]; omega) | (simp [xD]; done) | (simp [xD]; omega)) (L := 6) rfl (r := (I [23, 4, p, j])) rfl ((3 * w + k)) rfl (by omega) (by decide) dX7_holdsNow_31 ?_
    rw [show (I [23, 4, p, j] (3 * w + k)) = 99 from (hq.1.trans h0)]
    refine lv_tableIn (tgt := 161) hx hb dX7_holdsNow_32 (by decide) (by decide) rfl (by decide) ?_
    refine lv_aload_n hx hb dX7_holdsNow_161 rfl (lv_at hl 2 rfl) ?_
    refine x_get (C := RX7) (T := TX7) (N := 24) (ci := 7) hx hb hts iu7 hown hK hH (id := [20]) (by first | trivial | (simp only [xD]; omega) | (simp [xD]; done) | (simp [xD]; omega)) rfl rfl (by decide) 14 (by decide) (hts _ tw853) (fun _ h9 => h9) rfl (v := .ref (ga g [21, 14])) rfl dX7_holdsNow_162 ?_
    refine lv_iload_n hx hb dX7_holdsNow_165 rfl (lv_at hl 3 rfl) ?_
    refine x_aald hx hb hK hH (id := [21, 14]) (by first | trivial | (simp only [xD]; omega) | (simp [xD]; done) | (simp [xD]; omega)) 8 (L := 4) rfl (by decide) c rfl (by omega) (by decide) (v := .ref (ga g [22, 14, c])) (by show rq _ (if _ then _ else _) = _; rw [if_pos (show c < xLn 14 by show _ < 4; omega)]; rfl) dX7_holdsNow_166 ?_
    refine lv_iload hx hb dX7_holdsNow_167 (lv_at hl 0 rfl) ?_
    refine x_cald hx hb hK hH (id := [22, 14, c]) (by first | trivial | (simp only [xD]; omega) | (simp [xD]; done) | (simp [xD]; omega)) (L := 8) rfl (r := (X 2)) (mW_r2 _ _ _) a rfl (by omega) (by decide) dX7_holdsNow_169 ?_
    refine lv_bipush (v := 99) hx hb dX7_holdsNow_170 (by decide) ?_
    refine lv_icmp_ne (tgt := 179) hx hb dX7_holdsNow_172 (by decide) (fun c_172 => ?_) (fun c_172 => ?_)
    · skip
      refine lv_iconst (v := 0) hx hb dX7_holdsNow_179 (by decide) ?_
      exact x_zret hx hb hr hlocks hS dX7_holdsNow_180 rfl (b01_f (by rw [(sMet_c h0), hcl]; exact decide_eq_false (c_172))) hH
    · skip
      refine lv_iconst (v := 1) hx hb dX7_holdsNow_175 (by decide) ?_
      refine lv_goto (tgt := 180) hx hb dX7_holdsNow_176 (by decide) ?_
      exact x_zret hx hb hr hlocks hS dX7_holdsNow_180 rfl (b01_t (by rw [(sMet_c h0), hcl]; exact decide_eq_true (c_172))) hH
  · skip
    refine lv_aload_n hx hb dX7_holdsNow_0 rfl (lv_at hl 0 rfl) ?_
    refine x_get (C := RX7) (T := TX7) (N := 24) (ci := 7) hx hb hts iu7 hown hK hH (id := [20]) (by first | trivial | (simp only [xD]; omega) | (simp [xD]; done) | (simp [xD]; omega)) rfl rfl (by decide) 11 (by decide) (hts _ tw850) (fun _ h9 => h9) rfl (v := .ref (ga g [24, 11])) rfl dX7_holdsNow_1 ?_
    refine lv_iload_n hx hb dX7_holdsNow_4 rfl (lv_at hl 1 rfl) ?_
    refine x_iald hx hb hK hH (id := [24, 11]) (by first | trivial | (simp only [xD]; omega) | (simp [xD]; done) | (simp [xD]; omega)) (L := 4) rfl (r := (I [24, 11])) rfl c rfl (by omega) (by decide) dX7_holdsNow_5 ?_
    rw [show (I [24, 11] c) = (nI p) from hpo]
    refine lv_istore (lv' := [(4, .int (nI p)), (0, .ref (ga g [20])), (1, .int (nI c)), (2, .int (nI j)), (3, .int (nI (3 * w + k)))]) hx hb dX7_holdsNow_6 hl (by decide) rfl (fun ls hl => ?_)
    refine lv_aload_n hx hb dX7_holdsNow_8 rfl (lv_at hl 1 rfl) ?_
    refine x_get (C := RX7) (T := TX7) (N := 24) (ci := 7) hx hb hts iu7 hown hK hH (id := [20]) (by first | trivial | (simp only [xD]; omega) | (simp [xD]; done) | (simp [xD]; omega)) rfl rfl (by decide) 5 (by decide) (hts _ tw844) (fun _ h9 => h9) rfl (v := .ref (ga g [21, 5])) rfl dX7_holdsNow_9 ?_
    refine lv_iload hx hb dX7_holdsNow_12 (lv_at hl 0 rfl) ?_
    refine x_aald hx hb hK hH (id := [21, 5]) (by first | trivial | (simp only [xD]; omega) | (simp [xD]; done) | (simp [xD]; omega)) 10 (L := 3) rfl (by decide) p rfl (by omega) (by decide) (v := .ref (ga g [22, 5, p])) (by show rq _ (if _ then _ else _) = _; rw [if_pos (show p < xLn 5 by show _ < 3; omega)]; rfl) dX7_holdsNow_14 ?_
    refine lv_iload_n hx hb dX7_holdsNow_15 rfl (lv_at hl 3 rfl) ?_
    refine x_aald hx hb hK hH (id := [22, 5, p]) (by first | trivial | (simp only [xD]; omega) | (simp [xD]; done) | (simp [xD]; omega)) 7 (L := 8) rfl (by decide) j rfl (by omega) (by decide) (v := .ref (ga g [23, 5, p, j])) (by show rq _ (if _ then _ else _) = _; rw [if_pos (by omega)]; rfl) dX7_holdsNow_16 ?_
    refine lv_iload_n hx hb dX7_holdsNow_17 rfl (lv_at hl 4 rfl) ?_
    refine x_iald hx hb hK hH (id := [23, 5, p, j]) (by first | trivial | (simp only [xD]; omega) | (simp [xD]; done) | (simp [xD]; omega)) (L := 6) rfl (r := (I [23, 5, p, j])) rfl ((3 * w + k)) rfl (by omega) (by decide) dX7_holdsNow_18 ?_
    rw [show (I [23, 5, p, j] (3 * w + k)) = (I [10, p, j, w, k] 1) from hq.2.1]
    refine lv_istore (lv' := [(5, .int (I [10, p, j, w, k] 1)), (4, .int (nI p)), (0, .ref (ga g [20])), (1, .int (nI c)), (2, .int (nI j)), (3, .int (nI (3 * w + k)))]) hx hb dX7_holdsNow_19 hl (by decide) rfl (fun ls hl => ?_)
    refine lv_aload_n hx hb dX7_holdsNow_21 rfl (lv_at hl 2 rfl) ?_
    refine x_get (C := RX7) (T := TX7) (N := 24) (ci := 7) hx hb hts iu7 hown hK hH (id := [20]) (by first | trivial | (simp only [xD]; omega) | (simp [xD]; done) | (simp [xD]; omega)) rfl rfl (by decide) 4 (by decide) (hts _ tw843) (fun _ h9 => h9) rfl (v := .ref (ga g [21, 4])) rfl dX7_holdsNow_22 ?_
    refine lv_iload hx hb dX7_holdsNow_25 (lv_at hl 1 rfl) ?_
    refine x_aald hx hb hK hH (id := [21, 4]) (by first | trivial | (simp only [xD]; omega) | (simp [xD]; done) | (simp [xD]; omega)) 11 (L := 3) rfl (by decide) p rfl (by omega) (by decide) (v := .ref (ga g [22, 4, p])) (by show rq _ (if _ then _ else _) = _; rw [if_pos (show p < xLn 4 by show _ < 3; omega)]; rfl) dX7_holdsNow_27 ?_
    refine lv_iload_n hx hb dX7_holdsNow_28 rfl (lv_at hl 4 rfl) ?_
    refine x_aald hx hb hK hH (id := [22, 4, p]) (by first | trivial | (simp only [xD]; omega) | (simp [xD]; done) | (simp [xD]; omega)) 8 (L := 8) rfl (by decide) j rfl (by omega) (by decide) (v := .ref (ga g [23, 4, p, j])) (by show rq _ (if _ then _ else _) = _; rw [if_pos (by omega)]; rfl) dX7_holdsNow_29 ?_
    refine lv_iload_n hx hb dX7_holdsNow_30 rfl (lv_at hl 5 rfl) ?_
    refine x_cald hx hb hK hH (id := [23, 4, p, j]) (by first | trivial | (simp only [xD]; omega) | (simp [xD]; done) | (simp [xD]; omega)) (L := 6) rfl (r := (I [23, 4, p, j])) rfl ((3 * w + k)) rfl (by omega) (by decide) dX7_holdsNow_31 ?_
    rw [show (I [23, 4, p, j] (3 * w + k)) = 116 from (hq.1.trans h0)]
    refine lv_tableOut (tgt := 181) hx hb dX7_holdsNow_32 (by decide) (by decide) ?_
    refine lv_aload_n hx hb dX7_holdsNow_181 rfl (lv_at hl 2 rfl) ?_
    refine x_get (C := RX7) (T := TX7) (N := 24) (ci := 7) hx hb hts iu7 hown hK hH (id := [20]) (by first | trivial | (simp only [xD]; omega) | (simp [xD]; done) | (simp [xD]; omega)) rfl rfl (by decide) 17 (by decide) (hts _ tw856) (fun _ h9 => h9) rfl (v := .ref (ga g [24, 17])) rfl dX7_holdsNow_182 ?_
    refine lv_iload_n hx hb dX7_holdsNow_185 rfl (lv_at hl 3 rfl) ?_
    refine x_iald hx hb hK hH (id := [24, 17]) (by first | trivial | (simp only [xD]; omega) | (simp [xD]; done) | (simp [xD]; omega)) (L := 4) rfl (r := (mW I c X [24, 17])) rfl c rfl (by omega) (by decide) dX7_holdsNow_186 ?_
    rw [show (mW I c X [24, 17] c) = (X 0 6) from mW_c6 _ _ _]
    refine lv_iload hx hb dX7_holdsNow_187 (lv_at hl 0 rfl) ?_
    refine lv_icmp_lt (tgt := 196) hx hb dX7_holdsNow_189 (by decide) (fun c_189 => ?_) (fun c_189 => ?_)
    · skip
      refine lv_iconst (v := 0) hx hb dX7_holdsNow_196 (by decide) ?_
      exact x_zret hx hb hr hlocks hS dX7_holdsNow_197 rfl (b01_f (by rw [(sMet_t h0)]; exact decide_eq_false (i_lt_nle c_189))) hH
    · skip
      refine lv_iconst (v := 1) hx hb dX7_holdsNow_192 (by decide) ?_
      refine lv_goto (tgt := 197) hx hb dX7_holdsNow_193 (by decide) ?_
      exact x_zret hx hb hr hlocks hS dX7_holdsNow_197 rfl (b01_t (by rw [(sMet_t h0)]; exact decide_eq_true (i_nlt c_189))) hH

set_option maxHeartbeats 1000000 in
set_option maxRecDepth 100000 in
theorem c_X7_holdsOne_0 (l : Launch) (g : xG) (h : xS) (I : xI) (n c : Nat) (X : xX) (hc : c < 4) (p : Nat) (hpp : p < 3) (hpo : I [24, 11] c = nI p) (hA : mA h I p) (hW : xWp h I p) (j : Nat) (hj : j < sSz h p)  : xM l yX7_holdsOne (xws yX7_holdsOne cX7_holdsOne 6 (some FieldType.boolean)) 2 37 g [.ref (ga g [20]), .int (nI c), .int (nI j), .int 0] (xR g (xD h) (mW I c X) (xFh h) n) (some (.int (b01 (sAny (vC I p j 0) X (sCn h p j 0))))) (xR g (xD h) (mW I c X) (xFh h) n) 0 0 := by
  refine xM.of (by decide) (Nat.le_of_ble_eq_true rfl) ?_
  intro P_ e_ s m_ bl_ mt_ cd_ ls hx hb hr hown hlocks hml hnm hE hK hts hH hS hl
  have hl : lv_has ls 6 [(0, .ref (ga g [20])), (1, .int (nI c)), (2, .int (nI j)), (3, .int 0)] := hl
  have h8 := hW.1
  have h3 := ((hW.2.2.2 j hj).2.2 0 (by decide)).2.1
  refine lv_iconst (v := 0) hx hb dX7_holdsOne_0 (by decide) ?_
  refine lv_istore (lv' := [(4, .int 0), (0, .ref (ga g [20])), (1, .int (nI c)), (2, .int (nI j)), (3, .int 0)]) hx hb dX7_holdsOne_1 hl (by decide) rfl (fun ls hl => ?_)
  refine lv_iconst (v := 0) hx hb dX7_holdsOne_3 (by decide) ?_
  refine lv_istore (lv' := [(5, .int 0), (4, .int 0), (0, .ref (ga g [20])), (1, .int (nI c)), (2, .int (nI j)), (3, .int 0)]) hx hb dX7_holdsOne_4 hl (by decide) rfl (fun ls hl => ?_)
  have L6 : ∀ (fu : Nat) (i : Nat) (b : Int32) (H : Heap) (locs : List Loc) (ls : Array Slot), (i ≤ sCn h p j 0) → (b = b01 (sAny (vC I p j 0) X i)) → sCn h p j 0 - i < fu → xR g (xD h) (mW I c X) (xFh h) n H → va_S (gA g) s.heap H locs → lv_has ls 6 [(0, .ref (ga g [20])), (1, .int (nI c)), (2, .int (nI j)), (3, .int 0), (4, .int b), (5, .int (nI i))] → W P_ l e_ { frames := 2, cells := 0, slots := 0, locals := 37 } s m_ ([.ref (ga g [20]), .int (nI c), .int (nI j), .int 0] : List Value).toArray bl_ mt_ cd_ H locs 0 0 (MQ bl_ (xQc g (some (.int (b01 (sAny (vC I p j 0) X (sCn h p j 0))))) (xR g (xD h) (mW I c X) (xFh h) n)) ([.ref (ga g [20]), .int (nI c), .int (nI j), .int 0] : List Value).toArray s 0 0 (gA g)) (F0 m_ 6 ls []) := by
    intro fu
    induction fu with
    | zero => intro i b H locs ls hi hbb hfu; exact absurd hfu (Nat.not_lt_zero _)
    | succ fu ih6 =>
      intro i b H locs ls hi hbb hfu hH hS hl
      refine lv_iload hx hb dX7_holdsOne_6 (lv_at hl 5 rfl) ?_
      refine lv_aload_n hx hb dX7_holdsOne_8 rfl (lv_at hl 0 rfl) ?_
      refine x_get (C := RX7) (T := TX7) (N := 24) (ci := 7) hx hb hts iu7 hown hK hH (id := [20]) (by first | trivial | (simp only [xD]; omega) | (simp [xD]; done) | (simp [xD]; omega)) rfl rfl (by decide) 7 (by decide) (hts _ tw846) (fun _ h9 => h9) rfl (v := .ref (ga g [21, 7])) rfl dX7_holdsOne_9 ?_
      refine lv_aload_n hx hb dX7_holdsOne_12 rfl (lv_at hl 0 rfl) ?_
      refine x_get (C := RX7) (T := TX7) (N := 24) (ci := 7) hx hb hts iu7 hown hK hH (id := [20]) (by first | trivial | (simp only [xD]; omega) | (simp [xD]; done) | (simp [xD]; omega)) rfl rfl (by decide) 11 (by decide) (hts _ tw850) (fun _ h9 => h9) rfl (v := .ref (ga g [24, 11])) rfl dX7_holdsOne_13 ?_
      refine lv_iload_n hx hb dX7_holdsOne_16 rfl (lv_at hl 1 rfl) ?_
      refine x_iald hx hb hK hH (id := [24, 11]) (by first | trivial | (simp only [xD]; omega) | (simp [xD]; done) | (simp [xD]; omega)) (L := 4) rfl (r := (I [24, 11])) rfl c rfl (by omega) (by decide) dX7_holdsOne_17 ?_
      rw [show (I [24, 11] c) = (nI p) from hpo]
      refine x_aald hx hb hK hH (id := [21, 7]) (by first | trivial | (simp only [xD]; omega) | (simp [xD]; done) | (simp [xD]; omega)) 10 (L := 3) rfl (by decide) p rfl (by omega) (by decide) (v := .ref (ga g [22, 7, p])) (by show rq _ (if _ then _ else _) = _; rw [if_pos (show p < xLn 7 by show _ < 3; omega)]; rfl) dX7_holdsOne_18 ?_
      refine lv_iload_n hx hb dX7_holdsOne_19 rfl (lv_at hl 2 rfl) ?_
      refine x_aald hx hb hK hH (id := [22, 7, p]) (by first | trivial | (simp only [xD]; omega) | (simp [xD]; done) | (simp [xD]; omega)) 7 (L := 8) rfl (by decide) j rfl (by omega) (by decide) (v := .ref (ga g [23, 7, p, j])) (by show rq _ (if _ then _ else _) = _; rw [if_pos (by omega)]; rfl) dX7_holdsOne_20 ?_
      refine lv_iload_n hx hb dX7_holdsOne_21 rfl (lv_at hl 3 rfl) ?_
      refine x_iald hx hb hK hH (id := [23, 7, p, j]) (by first | trivial | (simp only [xD]; omega) | (simp [xD]; done) | (simp [xD]; omega)) (L := 2) rfl (r := (I [23, 7, p, j])) rfl 0 (by rfl) (by omega) (by decide) dX7_holdsOne_22 ?_
      rw [show (I [23, 7, p, j] 0) = (nI (sCn h p j 0)) from ((hA.2 j (by omega)).2.2.2.2.2 0 (by decide)).1]
      refine lv_icmp_ge (tgt := 59) hx hb dX7_holdsOne_23 (by decide) (fun c_23 => ?_) (fun c_23 => ?_)
      · skip
        have c_23 := (nI_leI (a := (sCn h p j 0)) (b := i) (by omega) (by omega)).mp c_23
        refine lv_iload hx hb dX7_holdsOne_59 (lv_at hl 4 rfl) ?_
        exact x_zret hx hb hr hlocks hS dX7_holdsOne_61 (by rw [hbb]; exact b01_nar _) (by rw [hbb, show i = sCn h p j 0 from by omega]) hH
      · skip
        have c_23 : ¬ _ := fun z_ => c_23 ((nI_leI (a := (sCn h p j 0)) (b := i) (by omega) (by omega)).mpr z_)
        refine lv_iload hx hb dX7_holdsOne_26 (lv_at hl 4 rfl) ?_
        refine lv_if_ne (tgt := 46) hx hb dX7_holdsOne_28 (by decide) (fun c_28 => ?_) (fun c_28 => ?_)
        · skip
          refine lv_iconst (v := 1) hx hb dX7_holdsOne_46 (by decide) ?_
          refine lv_goto (tgt := 51) hx hb dX7_holdsOne_47 (by decide) ?_
          refine lv_istore (lv' := [(4, .int 1), (0, .ref (ga g [20])), (1, .int (nI c)), (2, .int (nI j)), (3, .int 0), (5, .int (nI i))]) hx hb dX7_holdsOne_51 hl (by decide) rfl (fun ls hl => ?_)
          refine lv_iinc (v := (nI (i + 1))) (lv' := [(5, .int (nI (i + 1))), (4, .int 1), (0, .ref (ga g [20])), (1, .int (nI c)), (2, .int (nI j)), (3, .int 0)]) hx hb dX7_holdsOne_53 hl (k := 5) rfl (by first | rfl | exact nI_1 _ | exact nI_add _ _) (by decide) rfl (fun ls hl => ?_)
          refine lv_goto (tgt := 6) hx hb dX7_holdsOne_56 (by decide) ?_
          exact ih6 (i + 1) 1 _ _ _ (by omega) (b01_t (by show (_ || _) = true; rw [show (sAny (vC I p j 0) X i) = true from b01_ne0 (hbb ▸ c_28)]; rfl)) (by omega) hH hS (lv_sub hl [2, 3, 4, 5, 1, 0] rfl)
        · skip
          refine lv_aload_n hx hb dX7_holdsOne_31 rfl (lv_at hl 0 rfl) ?_
          refine lv_iload_n hx hb dX7_holdsOne_32 rfl (lv_at hl 1 rfl) ?_
          refine lv_iload_n hx hb dX7_holdsOne_33 rfl (lv_at hl 2 rfl) ?_
          refine lv_iconst (v := 3) hx hb dX7_holdsOne_34 (by decide) ?_
          refine lv_iload_n hx hb dX7_holdsOne_35 rfl (lv_at hl 3 rfl) ?_
          refine lv_imul hx hb dX7_holdsOne_36 ?_
          refine lv_iload hx hb dX7_holdsOne_37 (lv_at hl 5 rfl) ?_
          refine lv_iadd hx hb dX7_holdsOne_39 ?_
          rw [show ((3 * 0) + (nI i)) = (nI (3 * 0 + i)) from (mIx (by decide) i)]
          refine x_V1 hx hb hml hown hE hS hl.1 cyX7_holdsNow tw996 (c_X7_holdsNow l g h I n c X hc p hpp hpo hA hW j hj 0 i (by decide) (by omega)) ⟨Nat.le_of_ble_eq_true rfl, Nat.le_of_ble_eq_true rfl⟩ ⟨Nat.le_of_ble_eq_true rfl, Nat.le_of_ble_eq_true rfl⟩ (x_recv hK hH (id := [20]) (by first | trivial | (simp only [xD]; omega) | (simp [xD]; done) | (simp [xD]; omega)) (ci := 7) rfl (by decide) rfl) hH rfl rfl (Nat.le_of_ble_eq_true rfl) dX7_holdsOne_40 (fun H locs hH hS => ?_)
          refine lv_if_eq (tgt := 50) hx hb dX7_holdsOne_43 (by decide) (fun c_43 => ?_) (fun c_43 => ?_)
          · skip
            refine lv_iconst (v := 0) hx hb dX7_holdsOne_50 (by decide) ?_
            refine lv_istore (lv' := [(4, .int 0), (0, .ref (ga g [20])), (1, .int (nI c)), (2, .int (nI j)), (3, .int 0), (5, .int (nI i))]) hx hb dX7_holdsOne_51 hl (by decide) rfl (fun ls hl => ?_)
            refine lv_iinc (v := (nI (i + 1))) (lv' := [(5, .int (nI (i + 1))), (4, .int 0), (0, .ref (ga g [20])), (1, .int (nI c)), (2, .int (nI j)), (3, .int 0)]) hx hb dX7_holdsOne_53 hl (k := 5) rfl (by first | rfl | exact nI_1 _ | exact nI_add _ _) (by decide) rfl (fun ls hl => ?_)
            refine lv_goto (tgt := 6) hx hb dX7_holdsOne_56 (by decide) ?_
            exact ih6 (i + 1) 0 _ _ _ (by omega) (b01_f (by show (_ || _) = false; rw [(b01_eq0 _).mp (hbb ▸ c_28 : b01 (sAny (vC I p j 0) X i) = 0), show sMet (vC I p j 0 i) X = false from (b01_eq0 _).mp c_43]; rfl)) (by omega) hH hS (lv_sub hl [2, 3, 4, 5, 1, 0] rfl)
          · skip
            refine lv_iconst (v := 1) hx hb dX7_holdsOne_46 (by decide) ?_
            refine lv_goto (tgt := 51) hx hb dX7_holdsOne_47 (by decide) ?_
            refine lv_istore (lv' := [(4, .int 1), (0, .ref (ga g [20])), (1, .int (nI c)), (2, .int (nI j)), (3, .int 0), (5, .int (nI i))]) hx hb dX7_holdsOne_51 hl (by decide) rfl (fun ls hl => ?_)
            refine lv_iinc (v := (nI (i + 1))) (lv' := [(5, .int (nI (i + 1))), (4, .int 1), (0, .ref (ga g [20])), (1, .int (nI c)), (2, .int (nI j)), (3, .int 0)]) hx hb dX7_holdsOne_53 hl (k := 5) rfl (by first | rfl | exact nI_1 _ | exact nI_add _ _) (by decide) rfl (fun ls hl => ?_)
            refine lv_goto (tgt := 6) hx hb dX7_holdsOne_56 (by decide) ?_
            exact ih6 (i + 1) 1 _ _ _ (by omega) (b01_t (by show (_ || _) = true; rw [show sMet (vC I p j 0 i) X = true from b01_ne0 c_43]; exact Bool.or_true _)) (by omega) hH hS (lv_sub hl [2, 3, 4, 5, 1, 0] rfl)
  exact L6 _ 0 0 _ _ _ (by omega) rfl (Nat.lt_succ_self _) hH hS (lv_sub hl [2, 3, 4, 5, 1, 0] rfl)

set_option maxHeartbeats 1000000 in
set_option maxRecDepth 100000 in
theorem c_X7_holdsOne_1 (l : Launch) (g : xG) (h : xS) (I : xI) (n c : Nat) (X : xX) (hc : c < 4) (p : Nat) (hpp : p < 3) (hpo : I [24, 11] c = nI p) (hA : mA h I p) (hW : xWp h I p) (j : Nat) (hj : j < sSz h p)  : xM l yX7_holdsOne (xws yX7_holdsOne cX7_holdsOne 6 (some FieldType.boolean)) 2 37 g [.ref (ga g [20]), .int (nI c), .int (nI j), .int 1] (xR g (xD h) (mW I c X) (xFh h) n) (some (.int (b01 (sAny (vC I p j 1) X (sCn h p j 1))))) (xR g (xD h) (mW I c X) (xFh h) n) 0 0 := by
  refine xM.of (by decide) (Nat.le_of_ble_eq_true rfl) ?_
  intro P_ e_ s m_ bl_ mt_ cd_ ls hx hb hr hown hlocks hml hnm hE hK hts hH hS hl
  have hl : lv_has ls 6 [(0, .ref (ga g [20])), (1, .int (nI c)), (2, .int (nI j)), (3, .int 1)] := hl
  have h8 := hW.1
  have h3 := ((hW.2.2.2 j hj).2.2 1 (by decide)).2.1
  refine lv_iconst (v := 0) hx hb dX7_holdsOne_0 (by decide) ?_
  refine lv_istore (lv' := [(4, .int 0), (0, .ref (ga g [20])), (1, .int (nI c)), (2, .int (nI j)), (3, .int 1)]) hx hb dX7_holdsOne_1 hl (by decide) rfl (fun ls hl => ?_)
  refine lv_iconst (v := 0) hx hb dX7_holdsOne_3 (by decide) ?_
  refine lv_istore (lv' := [(5, .int 0), (4, .int 0), (0, .ref (ga g [20])), (1, .int (nI c)), (2, .int (nI j)), (3, .int 1)]) hx hb dX7_holdsOne_4 hl (by decide) rfl (fun ls hl => ?_)
  have L6 : ∀ (fu : Nat) (i : Nat) (b : Int32) (H : Heap) (locs : List Loc) (ls : Array Slot), (i ≤ sCn h p j 1) → (b = b01 (sAny (vC I p j 1) X i)) → sCn h p j 1 - i < fu → xR g (xD h) (mW I c X) (xFh h) n H → va_S (gA g) s.heap H locs → lv_has ls 6 [(0, .ref (ga g [20])), (1, .int (nI c)), (2, .int (nI j)), (3, .int 1), (4, .int b), (5, .int (nI i))] → W P_ l e_ { frames := 2, cells := 0, slots := 0, locals := 37 } s m_ ([.ref (ga g [20]), .int (nI c), .int (nI j), .int 1] : List Value).toArray bl_ mt_ cd_ H locs 0 0 (MQ bl_ (xQc g (some (.int (b01 (sAny (vC I p j 1) X (sCn h p j 1))))) (xR g (xD h) (mW I c X) (xFh h) n)) ([.ref (ga g [20]), .int (nI c), .int (nI j), .int 1] : List Value).toArray s 0 0 (gA g)) (F0 m_ 6 ls []) := by
    intro fu
    induction fu with
    | zero => intro i b H locs ls hi hbb hfu; exact absurd hfu (Nat.not_lt_zero _)
    | succ fu ih6 =>
      intro i b H locs ls hi hbb hfu hH hS hl
      refine lv_iload hx hb dX7_holdsOne_6 (lv_at hl 5 rfl) ?_
      refine lv_aload_n hx hb dX7_holdsOne_8 rfl (lv_at hl 0 rfl) ?_
      refine x_get (C := RX7) (T := TX7) (N := 24) (ci := 7) hx hb hts iu7 hown hK hH (id := [20]) (by first | trivial | (simp only [xD]; omega) | (simp [xD]; done) | (simp [xD]; omega)) rfl rfl (by decide) 7 (by decide) (hts _ tw846) (fun _ h9 => h9) rfl (v := .ref (ga g [21, 7])) rfl dX7_holdsOne_9 ?_
      refine lv_aload_n hx hb dX7_holdsOne_12 rfl (lv_at hl 0 rfl) ?_
      refine x_get (C := RX7) (T := TX7) (N := 24) (ci := 7) hx hb hts iu7 hown hK hH (id := [20]) (by first | trivial | (simp only [xD]; omega) | (simp [xD]; done) | (simp [xD]; omega)) rfl rfl (by decide) 11 (by decide) (hts _ tw850) (fun _ h9 => h9) rfl (v := .ref (ga g [24, 11])) rfl dX7_holdsOne_13 ?_
      refine lv_iload_n hx hb dX7_holdsOne_16 rfl (lv_at hl 1 rfl) ?_
      refine x_iald hx hb hK hH (id := [24, 11]) (by first | trivial | (simp only [xD]; omega) | (simp [xD]; done) | (simp [xD]; omega)) (L := 4) rfl (r := (I [24, 11])) rfl c rfl (by omega) (by decide) dX7_holdsOne_17 ?_
      rw [show (I [24, 11] c) = (nI p) from hpo]
      refine x_aald hx hb hK hH (id := [21, 7]) (by first | trivial | (simp only [xD]; omega) | (simp [xD]; done) | (simp [xD]; omega)) 10 (L := 3) rfl (by decide) p rfl (by omega) (by decide) (v := .ref (ga g [22, 7, p])) (by show rq _ (if _ then _ else _) = _; rw [if_pos (show p < xLn 7 by show _ < 3; omega)]; rfl) dX7_holdsOne_18 ?_
      refine lv_iload_n hx hb dX7_holdsOne_19 rfl (lv_at hl 2 rfl) ?_
      refine x_aald hx hb hK hH (id := [22, 7, p]) (by first | trivial | (simp only [xD]; omega) | (simp [xD]; done) | (simp [xD]; omega)) 7 (L := 8) rfl (by decide) j rfl (by omega) (by decide) (v := .ref (ga g [23, 7, p, j])) (by show rq _ (if _ then _ else _) = _; rw [if_pos (by omega)]; rfl) dX7_holdsOne_20 ?_
      refine lv_iload_n hx hb dX7_holdsOne_21 rfl (lv_at hl 3 rfl) ?_
      refine x_iald hx hb hK hH (id := [23, 7, p, j]) (by first | trivial | (simp only [xD]; omega) | (simp [xD]; done) | (simp [xD]; omega)) (L := 2) rfl (r := (I [23, 7, p, j])) rfl 1 (by rfl) (by omega) (by decide) dX7_holdsOne_22 ?_
      rw [show (I [23, 7, p, j] 1) = (nI (sCn h p j 1)) from ((hA.2 j (by omega)).2.2.2.2.2 1 (by decide)).1]
      refine lv_icmp_ge (tgt := 59) hx hb dX7_holdsOne_23 (by decide) (fun c_23 => ?_) (fun c_23 => ?_)
      · skip
        have c_23 := (nI_leI (a := (sCn h p j 1)) (b := i) (by omega) (by omega)).mp c_23
        refine lv_iload hx hb dX7_holdsOne_59 (lv_at hl 4 rfl) ?_
        exact x_zret hx hb hr hlocks hS dX7_holdsOne_61 (by rw [hbb]; exact b01_nar _) (by rw [hbb, show i = sCn h p j 1 from by omega]) hH
      · skip
        have c_23 : ¬ _ := fun z_ => c_23 ((nI_leI (a := (sCn h p j 1)) (b := i) (by omega) (by omega)).mpr z_)
        refine lv_iload hx hb dX7_holdsOne_26 (lv_at hl 4 rfl) ?_
        refine lv_if_ne (tgt := 46) hx hb dX7_holdsOne_28 (by decide) (fun c_28 => ?_) (fun c_28 => ?_)
        · skip
          refine lv_iconst (v := 1) hx hb dX7_holdsOne_46 (by decide) ?_
          refine lv_goto (tgt := 51) hx hb dX7_holdsOne_47 (by decide) ?_
          refine lv_istore (lv' := [(4, .int 1), (0, .ref (ga g [20])), (1, .int (nI c)), (2, .int (nI j)), (3, .int 1), (5, .int (nI i))]) hx hb dX7_holdsOne_51 hl (by decide) rfl (fun ls hl => ?_)
          refine lv_iinc (v := (nI (i + 1))) (lv' := [(5, .int (nI (i + 1))), (4, .int 1), (0, .ref (ga g [20])), (1, .int (nI c)), (2, .int (nI j)), (3, .int 1)]) hx hb dX7_holdsOne_53 hl (k := 5) rfl (by first | rfl | exact nI_1 _ | exact nI_add _ _) (by decide) rfl (fun ls hl => ?_)
          refine lv_goto (tgt := 6) hx hb dX7_holdsOne_56 (by decide) ?_
          exact ih6 (i + 1) 1 _ _ _ (by omega) (b01_t (by show (_ || _) = true; rw [show (sAny (vC I p j 1) X i) = true from b01_ne0 (hbb ▸ c_28)]; rfl)) (by omega) hH hS (lv_sub hl [2, 3, 4, 5, 1, 0] rfl)
        · skip
          refine lv_aload_n hx hb dX7_holdsOne_31 rfl (lv_at hl 0 rfl) ?_
          refine lv_iload_n hx hb dX7_holdsOne_32 rfl (lv_at hl 1 rfl) ?_
          refine lv_iload_n hx hb dX7_holdsOne_33 rfl (lv_at hl 2 rfl) ?_
          refine lv_iconst (v := 3) hx hb dX7_holdsOne_34 (by decide) ?_
          refine lv_iload_n hx hb dX7_holdsOne_35 rfl (lv_at hl 3 rfl) ?_
          refine lv_imul hx hb dX7_holdsOne_36 ?_
          refine lv_iload hx hb dX7_holdsOne_37 (lv_at hl 5 rfl) ?_
          refine lv_iadd hx hb dX7_holdsOne_39 ?_
          rw [show ((3 * 1) + (nI i)) = (nI (3 * 1 + i)) from (mIx (by decide) i)]
          refine x_V1 hx hb hml hown hE hS hl.1 cyX7_holdsNow tw996 (c_X7_holdsNow l g h I n c X hc p hpp hpo hA hW j hj 1 i (by decide) (by omega)) ⟨Nat.le_of_ble_eq_true rfl, Nat.le_of_ble_eq_true rfl⟩ ⟨Nat.le_of_ble_eq_true rfl, Nat.le_of_ble_eq_true rfl⟩ (x_recv hK hH (id := [20]) (by first | trivial | (simp only [xD]; omega) | (simp [xD]; done) | (simp [xD]; omega)) (ci := 7) rfl (by decide) rfl) hH rfl rfl (Nat.le_of_ble_eq_true rfl) dX7_holdsOne_40 (fun H locs hH hS => ?_)
          refine lv_if_eq (tgt := 50) hx hb dX7_holdsOne_43 (by decide) (fun c_43 => ?_) (fun c_43 => ?_)
          · skip
            refine lv_iconst (v := 0) hx hb dX7_holdsOne_50 (by decide) ?_
            refine lv_istore (lv' := [(4, .int 0), (0, .ref (ga g [20])), (1, .int (nI c)), (2, .int (nI j)), (3, .int 1), (5, .int (nI i))]) hx hb dX7_holdsOne_51 hl (by decide) rfl (fun ls hl => ?_)
            refine lv_iinc (v := (nI (i + 1))) (lv' := [(5, .int (nI (i + 1))), (4, .int 0), (0, .ref (ga g [20])), (1, .int (nI c)), (2, .int (nI j)), (3, .int 1)]) hx hb dX7_holdsOne_53 hl (k := 5) rfl (by first | rfl | exact nI_1 _ | exact nI_add _ _) (by decide) rfl (fun ls hl => ?_)
            refine lv_goto (tgt := 6) hx hb dX7_holdsOne_56 (by decide) ?_
            exact ih6 (i + 1) 0 _ _ _ (by omega) (b01_f (by show (_ || _) = false; rw [(b01_eq0 _).mp (hbb ▸ c_28 : b01 (sAny (vC I p j 1) X i) = 0), show sMet (vC I p j 1 i) X = false from (b01_eq0 _).mp c_43]; rfl)) (by omega) hH hS (lv_sub hl [2, 3, 4, 5, 1, 0] rfl)
          · skip
            refine lv_iconst (v := 1) hx hb dX7_holdsOne_46 (by decide) ?_
            refine lv_goto (tgt := 51) hx hb dX7_holdsOne_47 (by decide) ?_
            refine lv_istore (lv' := [(4, .int 1), (0, .ref (ga g [20])), (1, .int (nI c)), (2, .int (nI j)), (3, .int 1), (5, .int (nI i))]) hx hb dX7_holdsOne_51 hl (by decide) rfl (fun ls hl => ?_)
            refine lv_iinc (v := (nI (i + 1))) (lv' := [(5, .int (nI (i + 1))), (4, .int 1), (0, .ref (ga g [20])), (1, .int (nI c)), (2, .int (nI j)), (3, .int 1)]) hx hb dX7_holdsOne_53 hl (k := 5) rfl (by first | rfl | exact nI_1 _ | exact nI_add _ _) (by decide) rfl (fun ls hl => ?_)
            refine lv_goto (tgt := 6) hx hb dX7_holdsOne_56 (by decide) ?_
            exact ih6 (i + 1) 1 _ _ _ (by omega) (b01_t (by show (_ || _) = true; rw [show sMet (vC I p j 1 i) X = true from b01_ne0 c_43]; exact Bool.or_true _)) (by omega) hH hS (lv_sub hl [2, 3, 4, 5, 1, 0] rfl)
  exact L6 _ 0 0 _ _ _ (by omega) rfl (Nat.lt_succ_self _) hH hS (lv_sub hl [2, 3, 4, 5, 1, 0] rfl)

theorem rw2_self (X : xX) : rw2 X (X 2) = X := by funext f; unfold rw2; split <;> simp_all
theorem rw2_rw2 (X : xX) (S T : Nat → Int32) : rw2 (rw2 X S) T = rw2 X T := by funext f; unfold rw2; split <;> rfl
theorem rw2_up2 (X : xX) (k : Nat) (v : Int32) (S : Nat → Int32) : rw2 (up2 X 2 k v) S = rw2 X S := by
  funext f q; unfold rw2 up2
  split
  · rfl
  · rename_i h; exact if_neg (fun z => h z.1)
theorem up2_row (X : xX) (k : Nat) (v : Int32) : up2 X 2 k v 2 = fun q => if q = k then v else X 2 q := by funext q; simp [up2]
theorem up2_rw2 (X : xX) (k : Nat) (v : Int32) : up2 X 2 k v = rw2 X (fun q => if q = k then v else X 2 q) := by
  funext f q; unfold rw2 up2
  by_cases h : f = 2
  · subst h; simp
  · simp [h]
theorem sEnd_rw2 (P : Nat → Nat → Int32) (n k : Nat) (X : xX) (S : Nat → Int32) (v : Int32) : sEnd P n (rw2 X S) k v = rw2 X (clE P n k (fun q => if q = k then v else S q)) := (sEnd_cl P n k (rw2 X S) v).trans (rw2_rw2 X S _)
theorem xWp.pW {h : xS} {I : xI} {p : Nat} (hW : xWp h I p) : pW (vP I p) (sSz h p) := fun i hi => ((hW.2.2.2 i hi).2.1).imp_right (fun ⟨q, a, b, _⟩ => ⟨q, a, b⟩)
theorem xWp.leaf {h : xS} {I : xI} {p k : Nat} (hW : xWp h I p) (hk : ¬ I [7, p, k] 0 = 115) : ∀ i, i < sSz h p → vP I p i 1 ≠ -1 → pA (vP I p) i ≠ k := by
  intro i hi hm e
  rcases (hW.2.2.2 i hi).2.1 with z | ⟨q, a, b, d⟩
  · exact hm z
  · have h8 := hW.1
    have : pA (vP I p) i = q := by show (I [7, p, i] 1).toNatClampNeg = q; rw [b]; exact nI_clamp (by omega)
    rw [this] at e; subst e; exact hk d
set_option maxHeartbeats 1000000 in
set_option maxRecDepth 100000 in
theorem c_X7_closes_0 (l : Launch) (g : xG) (h : xS) (I : xI) (n c : Nat) (X : xX) (hc : c < 4) (p : Nat) (hpp : p < 3) (hpo : I [24, 11] c = nI p) (hA : mA h I p) (hW : xWp h I p) (j : Nat) (hj : j < sSz h p) (hlv : sSz h p ≤ j + 1 + 0)  : xM l yX7_closes (xws yX7_closes cX7_closes 5 none) 1 12 g [.ref (ga g [20]), .int (nI c), .int (nI j)] (xR g (xD h) (mW I c X) (xFh h) n) none (xR g (xD h) (mW I c (rw2 X (clE (vP I p) (sSz h p) j (X 2)))) (xFh h) n) 0 0 := by
  refine xM.of (by decide) (Nat.le_of_ble_eq_true rfl) ?_
  intro P_ e_ s m_ bl_ mt_ cd_ ls hx hb hr hown hlocks hml hnm hE hK hts hH hS hl
  have hl : lv_has ls 5 [(0, .ref (ga g [20])), (1, .int (nI c)), (2, .int (nI j))] := hl
  have h8 := hW.1
  refine lv_aload_n hx hb dX7_closes_0 rfl (lv_at hl 0 rfl) ?_
  refine x_get (C := RX7) (T := TX7) (N := 24) (ci := 7) hx hb hts iu7 hown hK hH (id := [20]) (by first | trivial | (simp only [xD]; omega) | (simp [xD]; done) | (simp [xD]; omega)) rfl rfl (by decide) 11 (by decide) (hts _ tw850) (fun _ h9 => h9) rfl (v := .ref (ga g [24, 11])) rfl dX7_closes_1 ?_
  refine lv_iload_n hx hb dX7_closes_4 rfl (lv_at hl 1 rfl) ?_
  refine x_iald hx hb hK hH (id := [24, 11]) (by first | trivial | (simp only [xD]; omega) | (simp [xD]; done) | (simp [xD]; omega)) (L := 4) rfl (r := (I [24, 11])) rfl c rfl (by omega) (by decide) dX7_closes_5 ?_
  rw [show (I [24, 11] c) = (nI p) from hpo]
  refine lv_istore_n (lv' := [(3, .int (nI p)), (0, .ref (ga g [20])), (1, .int (nI c)), (2, .int (nI j))]) hx hb dX7_closes_6 rfl hl (by decide) rfl (fun ls hl => ?_)
  refine lv_iconst (v := 0) hx hb dX7_closes_7 (by decide) ?_
  refine lv_istore (lv' := [(4, .int 0), (3, .int (nI p)), (0, .ref (ga g [20])), (1, .int (nI c)), (2, .int (nI j))]) hx hb dX7_closes_8 hl (by decide) rfl (fun ls hl => ?_)
  have hH : xR g (xD h) (mW I c (rw2 X (X 2))) (xFh h) n s.heap := by rw [rw2_self]; exact hH
  have L10 : ∀ (fu : Nat) (i : Nat) (S : Nat → Int32) (H : Heap) (locs : List Loc) (ls : Array Slot), (i ≤ sSz h p) → (LI (vP I p) (sSz h p) j i (X 2) S) → sSz h p - i < fu → xR g (xD h) (mW I c (rw2 X S)) (xFh h) n H → va_S (gA g) s.heap H locs → lv_has ls 5 [(0, .ref (ga g [20])), (1, .int (nI c)), (2, .int (nI j)), (3, .int (nI p)), (4, .int (nI i))] → W P_ l e_ { frames := 1, cells := 0, slots := 0, locals := 12 } s m_ ([.ref (ga g [20]), .int (nI c), .int (nI j)] : List Value).toArray bl_ mt_ cd_ H locs 0 0 (MQ bl_ (xQc g none (xR g (xD h) (mW I c (rw2 X (clE (vP I p) (sSz h p) j (X 2)))) (xFh h) n)) ([.ref (ga g [20]), .int (nI c), .int (nI j)] : List Value).toArray s 0 0 (gA g)) (F0 m_ 10 ls []) := by
    intro fu
    induction fu with
    | zero => intro i S H locs ls hi hL hfu; exact absurd hfu (Nat.not_lt_zero _)
    | succ fu ih10 =>
      intro i S H locs ls hi hL hfu hH hS hl
      refine lv_iload hx hb dX7_closes_10 (lv_at hl 4 rfl) ?_
      refine lv_aload_n hx hb dX7_closes_12 rfl (lv_at hl 0 rfl) ?_
      refine x_get (C := RX7) (T := TX7) (N := 24) (ci := 7) hx hb hts iu7 hown hK hH (id := [20]) (by first | trivial | (simp only [xD]; omega) | (simp [xD]; done) | (simp [xD]; omega)) rfl rfl (by decide) 8 (by decide) (hts _ tw847) (fun _ h9 => h9) rfl (v := .ref (ga g [24, 8])) rfl dX7_closes_13 ?_
      refine lv_iload_n hx hb dX7_closes_16 rfl (lv_at hl 3 rfl) ?_
      refine x_iald hx hb hK hH (id := [24, 8]) (by first | trivial | (simp only [xD]; omega) | (simp [xD]; done) | (simp [xD]; omega)) (L := 3) rfl (r := (I [24, 8])) rfl p rfl (by omega) (by decide) dX7_closes_17 ?_
      rw [show (I [24, 8] p) = (nI (sSz h p)) from hA.1]
      refine lv_icmp_ge (tgt := 77) hx hb dX7_closes_18 (by decide) (fun c_18 => ?_) (fun c_18 => ?_)
      · skip
        have c_18 := (nI_leI (a := (sSz h p)) (b := i) (by omega) (by omega)).mp c_18
        have e : i = sSz h p := by omega
        have hcl := clE_eq hW.pW h8 hj (show LI (vP I p) (sSz h p) j (sSz h p) (X 2) S from e ▸ hL)
        exact x_vret hx hb hr hlocks hS dX7_closes_77 (by rw [← hcl]; exact hH)
      · skip
        have c_18 : ¬ _ := fun z_ => c_18 ((nI_leI (a := (sSz h p)) (b := i) (by omega) (by omega)).mpr z_)
        refine lv_aload_n hx hb dX7_closes_21 rfl (lv_at hl 0 rfl) ?_
        refine x_get (C := RX7) (T := TX7) (N := 24) (ci := 7) hx hb hts iu7 hown hK hH (id := [20]) (by first | trivial | (simp only [xD]; omega) | (simp [xD]; done) | (simp [xD]; omega)) rfl rfl (by decide) 1 (by decide) (hts _ tw840) (fun _ h9 => h9) rfl (v := .ref (ga g [21, 1])) rfl dX7_closes_22 ?_
        refine lv_iload_n hx hb dX7_closes_25 rfl (lv_at hl 3 rfl) ?_
        refine x_aald hx hb hK hH (id := [21, 1]) (by first | trivial | (simp only [xD]; omega) | (simp [xD]; done) | (simp [xD]; omega)) 7 (L := 3) rfl (by decide) p rfl (by omega) (by decide) (v := .ref (ga g [22, 1, p])) (by show rq _ (if _ then _ else _) = _; rw [if_pos (show p < xLn 1 by show _ < 3; omega)]; rfl) dX7_closes_26 ?_
        refine lv_iload hx hb dX7_closes_27 (lv_at hl 4 rfl) ?_
        refine x_iald hx hb hK hH (id := [22, 1, p]) (by first | trivial | (simp only [xD]; omega) | (simp [xD]; done) | (simp [xD]; omega)) (L := 8) rfl (r := (I [22, 1, p])) rfl i rfl (by omega) (by decide) dX7_closes_29 ?_
        rw [show (I [22, 1, p] i) = (I [7, p, i] 1) from (hA.2 i (by omega)).2.1]
        refine lv_iload_n hx hb dX7_closes_30 rfl (lv_at hl 2 rfl) ?_
        refine lv_icmp_ne (tgt := 71) hx hb dX7_closes_31 (by decide) (fun c_31 => ?_) (fun c_31 => ?_)
        · skip
          refine lv_iinc (v := (nI (i + 1))) (lv' := [(4, .int (nI (i + 1))), (0, .ref (ga g [20])), (1, .int (nI c)), (2, .int (nI j)), (3, .int (nI p))]) hx hb dX7_closes_71 hl (k := 4) rfl (by first | rfl | exact nI_1 _ | exact nI_add _ _) (by decide) rfl (fun ls hl => ?_)
          refine lv_goto (tgt := 10) hx hb dX7_closes_74 (by decide) ?_
          exact ih10 (i + 1) S _ _ _ (by omega) (LI_no hW.pW h8 hL (by omega) (fun z => c_31 z.1)) (by omega) hH hS (lv_sub hl [1, 2, 3, 4, 0] rfl)
        · skip
          have hp := pW_pA hW.pW h8 (show i < sSz h p by omega) (pA_of (P := vP I p) (by omega) c_31).2; have hq := (pA_of (P := vP I p) (i := i) (by omega) c_31).1; omega
  exact L10 _ 0 ((X 2)) _ _ _ (Nat.zero_le _) (LI_0 _ _ _ _) (Nat.lt_succ_self _) hH hS (lv_sub hl [2, 3, 4, 1, 0] rfl)

set_option maxHeartbeats 1000000 in
set_option maxRecDepth 100000 in
theorem c_X7_becomes_0_120 (l : Launch) (g : xG) (h : xS) (I : xI) (n c : Nat) (X : xX) (hc : c < 4) (p : Nat) (hpp : p < 3) (hpo : I [24, 11] c = nI p) (hA : mA h I p) (hW : xWp h I p) (k : Nat) (hk : k < sSz h p) (hlv : sSz h p ≤ k + 1 + 0)  : xM l yX7_becomes (xws yX7_becomes cX7_becomes 4 none) 2 36 g [.ref (ga g [20]), .int (nI c), .int (nI k), .int 120] (xR g (xD h) (mW I c X) (xFh h) n) none (xR g (xD h) (mW I c (sEnd (vP I p) (sSz h p) X k 120)) (xFh h) n) 0 0 := by
  refine xM.of (by decide) (Nat.le_of_ble_eq_true rfl) ?_
  intro P_ e_ s m_ bl_ mt_ cd_ ls hx hb hr hown hlocks hml hnm hE hK hts hH hS hl
  have hl : lv_has ls 4 [(0, .ref (ga g [20])), (1, .int (nI c)), (2, .int (nI k)), (3, .int 120)] := hl
  have h8 := hW.1
  refine lv_aload_n hx hb dX7_becomes_0 rfl (lv_at hl 0 rfl) ?_
  refine x_get (C := RX7) (T := TX7) (N := 24) (ci := 7) hx hb hts iu7 hown hK hH (id := [20]) (by first | trivial | (simp only [xD]; omega) | (simp [xD]; done) | (simp [xD]; omega)) rfl rfl (by decide) 14 (by decide) (hts _ tw853) (fun _ h9 => h9) rfl (v := .ref (ga g [21, 14])) rfl dX7_becomes_1 ?_
  refine lv_iload_n hx hb dX7_becomes_4 rfl (lv_at hl 1 rfl) ?_
  refine x_aald hx hb hK hH (id := [21, 14]) (by first | trivial | (simp only [xD]; omega) | (simp [xD]; done) | (simp [xD]; omega)) 8 (L := 4) rfl (by decide) c rfl (by omega) (by decide) (v := .ref (ga g [22, 14, c])) (by show rq _ (if _ then _ else _) = _; rw [if_pos (show c < xLn 14 by show _ < 4; omega)]; rfl) dX7_becomes_5 ?_
  refine lv_iload_n hx hb dX7_becomes_6 rfl (lv_at hl 2 rfl) ?_
  refine lv_iload_n hx hb dX7_becomes_7 rfl (lv_at hl 3 rfl) ?_
  obtain ⟨X1_, hX1_⟩ : ∃ z, z = up2 X 2 k 120 := ⟨_, rfl⟩
  refine x_cast hx hb hK hH hS (id := [22, 14, c]) (by first | trivial | (simp only [xD]; omega) | (simp [xD]; done) | (simp [xD]; omega)) (L := 8) rfl k rfl (by omega) (by decide) (by rfl) ((mW_u2 _ _ _ _ _).trans (congrArg (mW I c) hX1_.symm)) dX7_becomes_8 (fun H locs hH hS => ?_)
  refine lv_aload_n hx hb dX7_becomes_9 rfl (lv_at hl 0 rfl) ?_
  refine x_get (C := RX7) (T := TX7) (N := 24) (ci := 7) hx hb hts iu7 hown hK hH (id := [20]) (by first | trivial | (simp only [xD]; omega) | (simp [xD]; done) | (simp [xD]; omega)) rfl rfl (by decide) 0 (by decide) (hts _ tw839) (fun _ h9 => h9) rfl (v := .ref (ga g [21, 0])) rfl dX7_becomes_10 ?_
  refine lv_aload_n hx hb dX7_becomes_13 rfl (lv_at hl 0 rfl) ?_
  refine x_get (C := RX7) (T := TX7) (N := 24) (ci := 7) hx hb hts iu7 hown hK hH (id := [20]) (by first | trivial | (simp only [xD]; omega) | (simp [xD]; done) | (simp [xD]; omega)) rfl rfl (by decide) 11 (by decide) (hts _ tw850) (fun _ h9 => h9) rfl (v := .ref (ga g [24, 11])) rfl dX7_becomes_14 ?_
  refine lv_iload_n hx hb dX7_becomes_17 rfl (lv_at hl 1 rfl) ?_
  refine x_iald hx hb hK hH (id := [24, 11]) (by first | trivial | (simp only [xD]; omega) | (simp [xD]; done) | (simp [xD]; omega)) (L := 4) rfl (r := (I [24, 11])) rfl c rfl (by omega) (by decide) dX7_becomes_18 ?_
  rw [show (I [24, 11] c) = (nI p) from hpo]
  refine x_aald hx hb hK hH (id := [21, 0]) (by first | trivial | (simp only [xD]; omega) | (simp [xD]; done) | (simp [xD]; omega)) 8 (L := 3) rfl (by decide) p rfl (by omega) (by decide) (v := .ref (ga g [22, 0, p])) (by show rq _ (if _ then _ else _) = _; rw [if_pos (show p < xLn 0 by show _ < 3; omega)]; rfl) dX7_becomes_19 ?_
  refine lv_iload_n hx hb dX7_becomes_20 rfl (lv_at hl 2 rfl) ?_
  refine x_cald hx hb hK hH (id := [22, 0, p]) (by first | trivial | (simp only [xD]; omega) | (simp [xD]; done) | (simp [xD]; omega)) (L := 8) rfl (r := (I [22, 0, p])) rfl k rfl (by omega) (by decide) dX7_becomes_21 ?_
  rw [show (I [22, 0, p] k) = (I [7, p, k] 0) from (hA.2 k (by omega)).1]
  refine lv_bipush (v := 115) hx hb dX7_becomes_22 (by decide) ?_
  refine lv_icmp_ne (tgt := 45) hx hb dX7_becomes_24 (by decide) (fun c_24 => ?_) (fun c_24 => ?_)
  · skip
    exact x_vret hx hb hr hlocks hS dX7_becomes_45 (by rw [sEnd_cl, ← clE_eq hW.pW h8 hk (LI_self (hW.leaf c_24)), ← up2_rw2, ← hX1_]; exact hH)
  · skip
    refine lv_iload_n hx hb dX7_becomes_27 rfl (lv_at hl 3 rfl) ?_
    refine lv_bipush (v := 99) hx hb dX7_becomes_28 (by decide) ?_
    refine lv_icmp_eq (tgt := 39) hx hb dX7_becomes_30 (by decide) (fun q_ => absurd q_ (by decide)) (fun _ => ?_)
    refine lv_iload_n hx hb dX7_becomes_33 rfl (lv_at hl 3 rfl) ?_
    refine lv_bipush (v := 120) hx hb dX7_becomes_34 (by decide) ?_
    refine lv_icmp_ne (tgt := 45) hx hb dX7_becomes_36 (by decide) (fun q_ => absurd (by decide) q_) (fun _ => ?_)
    refine lv_aload_n hx hb dX7_becomes_39 rfl (lv_at hl 0 rfl) ?_
    refine lv_iload_n hx hb dX7_becomes_40 rfl (lv_at hl 1 rfl) ?_
    refine lv_iload_n hx hb dX7_becomes_41 rfl (lv_at hl 2 rfl) ?_
    refine x_V0 hx hb hml hown hE hS hl.1 cyX7_closes tw1004 (c_X7_closes_0 l g h I n c X1_ hc p hpp hpo hA hW k hk hlv) ⟨Nat.le_of_ble_eq_true rfl, Nat.le_of_ble_eq_true rfl⟩ ⟨Nat.le_of_ble_eq_true rfl, Nat.le_of_ble_eq_true rfl⟩ (x_recv hK hH (id := [20]) (by first | trivial | (simp only [xD]; omega) | (simp [xD]; done) | (simp [xD]; omega)) (ci := 7) rfl (by decide) rfl) hH rfl rfl (Nat.le_of_ble_eq_true rfl) dX7_becomes_42 (fun H locs hH hS => ?_)
    exact x_vret hx hb hr hlocks hS dX7_becomes_45 (by rw [hX1_, rw2_up2, up2_row] at hH; exact hH)

set_option maxHeartbeats 1000000 in
set_option maxRecDepth 100000 in
theorem c_X7_closes_1 (l : Launch) (g : xG) (h : xS) (I : xI) (n c : Nat) (X : xX) (hc : c < 4) (p : Nat) (hpp : p < 3) (hpo : I [24, 11] c = nI p) (hA : mA h I p) (hW : xWp h I p) (j : Nat) (hj : j < sSz h p) (hlv : sSz h p ≤ j + 1 + 1)  : xM l yX7_closes (xws yX7_closes cX7_closes 5 none) 3 59 g [.ref (ga g [20]), .int (nI c), .int (nI j)] (xR g (xD h) (mW I c X) (xFh h) n) none (xR g (xD h) (mW I c (rw2 X (clE (vP I p) (sSz h p) j (X 2)))) (xFh h) n) 0 0 := by
  refine xM.of (by decide) (Nat.le_of_ble_eq_true rfl) ?_
  intro P_ e_ s m_ bl_ mt_ cd_ ls hx hb hr hown hlocks hml hnm hE hK hts hH hS hl
  have hl : lv_has ls 5 [(0, .ref (ga g [20])), (1, .int (nI c)), (2, .int (nI j))] := hl
  have h8 := hW.1
  refine lv_aload_n hx hb dX7_closes_0 rfl (lv_at hl 0 rfl) ?_
  refine x_get (C := RX7) (T := TX7) (N := 24) (ci := 7) hx hb hts iu7 hown hK hH (id := [20]) (by first | trivial | (simp only [xD]; omega) | (simp [xD]; done) | (simp [xD]; omega)) rfl rfl (by decide) 11 (by decide) (hts _ tw850) (fun _ h9 => h9) rfl (v := .ref (ga g [24, 11])) rfl dX7_closes_1 ?_
  refine lv_iload_n hx hb dX7_closes_4 rfl (lv_at hl 1 rfl) ?_
  refine x_iald hx hb hK hH (id := [24, 11]) (by first | trivial | (simp only [xD]; omega) | (simp [xD]; done) | (simp [xD]; omega)) (L := 4) rfl (r := (I [24, 11])) rfl c rfl (by omega) (by decide) dX7_closes_5 ?_
  rw [show (I [24, 11] c) = (nI p) from hpo]
  refine lv_istore_n (lv' := [(3, .int (nI p)), (0, .ref (ga g [20])), (1, .int (nI c)), (2, .int (nI j))]) hx hb dX7_closes_6 rfl hl (by decide) rfl (fun ls hl => ?_)
  refine lv_iconst (v := 0) hx hb dX7_closes_7 (by decide) ?_
  refine lv_istore (lv' := [(4, .int 0), (3, .int (nI p)), (0, .ref (ga g [20])), (1, .int (nI c)), (2, .int (nI j))]) hx hb dX7_closes_8 hl (by decide) rfl (fun ls hl => ?_)
  have hH : xR g (xD h) (mW I c (rw2 X (X 2))) (xFh h) n s.heap := by rw [rw2_self]; exact hH
  have L10 : ∀ (fu : Nat) (i : Nat) (S : Nat → Int32) (H : Heap) (locs : List Loc) (ls : Array Slot), (i ≤ sSz h p) → (LI (vP I p) (sSz h p) j i (X 2) S) → sSz h p - i < fu → xR g (xD h) (mW I c (rw2 X S)) (xFh h) n H → va_S (gA g) s.heap H locs → lv_has ls 5 [(0, .ref (ga g [20])), (1, .int (nI c)), (2, .int (nI j)), (3, .int (nI p)), (4, .int (nI i))] → W P_ l e_ { frames := 3, cells := 0, slots := 0, locals := 59 } s m_ ([.ref (ga g [20]), .int (nI c), .int (nI j)] : List Value).toArray bl_ mt_ cd_ H locs 0 0 (MQ bl_ (xQc g none (xR g (xD h) (mW I c (rw2 X (clE (vP I p) (sSz h p) j (X 2)))) (xFh h) n)) ([.ref (ga g [20]), .int (nI c), .int (nI j)] : List Value).toArray s 0 0 (gA g)) (F0 m_ 10 ls []) := by
    intro fu
    induction fu with
    | zero => intro i S H locs ls hi hL hfu; exact absurd hfu (Nat.not_lt_zero _)
    | succ fu ih10 =>
      intro i S H locs ls hi hL hfu hH hS hl
      refine lv_iload hx hb dX7_closes_10 (lv_at hl 4 rfl) ?_
      refine lv_aload_n hx hb dX7_closes_12 rfl (lv_at hl 0 rfl) ?_
      refine x_get (C := RX7) (T := TX7) (N := 24) (ci := 7) hx hb hts iu7 hown hK hH (id := [20]) (by first | trivial | (simp only [xD]; omega) | (simp [xD]; done) | (simp [xD]; omega)) rfl rfl (by decide) 8 (by decide) (hts _ tw847) (fun _ h9 => h9) rfl (v := .ref (ga g [24, 8])) rfl dX7_closes_13 ?_
      refine lv_iload_n hx hb dX7_closes_16 rfl (lv_at hl 3 rfl) ?_
      refine x_iald hx hb hK hH (id := [24, 8]) (by first | trivial | (simp only [xD]; omega) | (simp [xD]; done) | (simp [xD]; omega)) (L := 3) rfl (r := (I [24, 8])) rfl p rfl (by omega) (by decide) dX7_closes_17 ?_
      rw [show (I [24, 8] p) = (nI (sSz h p)) from hA.1]
      refine lv_icmp_ge (tgt := 77) hx hb dX7_closes_18 (by decide) (fun c_18 => ?_) (fun c_18 => ?_)
      · skip
        have c_18 := (nI_leI (a := (sSz h p)) (b := i) (by omega) (by omega)).mp c_18
        have e : i = sSz h p := by omega
        have hcl := clE_eq hW.pW h8 hj (show LI (vP I p) (sSz h p) j (sSz h p) (X 2) S from e ▸ hL)
        exact x_vret hx hb hr hlocks hS dX7_closes_77 (by rw [← hcl]; exact hH)
      · skip
        have c_18 : ¬ _ := fun z_ => c_18 ((nI_leI (a := (sSz h p)) (b := i) (by omega) (by omega)).mpr z_)
        refine lv_aload_n hx hb dX7_closes_21 rfl (lv_at hl 0 rfl) ?_
        refine x_get (C := RX7) (T := TX7) (N := 24) (ci := 7) hx hb hts iu7 hown hK hH (id := [20]) (by first | trivial | (simp only [xD]; omega) | (simp [xD]; done) | (simp [xD]; omega)) rfl rfl (by decide) 1 (by decide) (hts _ tw840) (fun _ h9 => h9) rfl (v := .ref (ga g [21, 1])) rfl dX7_closes_22 ?_
        refine lv_iload_n hx hb dX7_closes_25 rfl (lv_at hl 3 rfl) ?_
        refine x_aald hx hb hK hH (id := [21, 1]) (by first | trivial | (simp only [xD]; omega) | (simp [xD]; done) | (simp [xD]; omega)) 7 (L := 3) rfl (by decide) p rfl (by omega) (by decide) (v := .ref (ga g [22, 1, p])) (by show rq _ (if _ then _ else _) = _; rw [if_pos (show p < xLn 1 by show _ < 3; omega)]; rfl) dX7_closes_26 ?_
        refine lv_iload hx hb dX7_closes_27 (lv_at hl 4 rfl) ?_
        refine x_iald hx hb hK hH (id := [22, 1, p]) (by first | trivial | (simp only [xD]; omega) | (simp [xD]; done) | (simp [xD]; omega)) (L := 8) rfl (r := (I [22, 1, p])) rfl i rfl (by omega) (by decide) dX7_closes_29 ?_
        rw [show (I [22, 1, p] i) = (I [7, p, i] 1) from (hA.2 i (by omega)).2.1]
        refine lv_iload_n hx hb dX7_closes_30 rfl (lv_at hl 2 rfl) ?_
        refine lv_icmp_ne (tgt := 71) hx hb dX7_closes_31 (by decide) (fun c_31 => ?_) (fun c_31 => ?_)
        · skip
          refine lv_iinc (v := (nI (i + 1))) (lv' := [(4, .int (nI (i + 1))), (0, .ref (ga g [20])), (1, .int (nI c)), (2, .int (nI j)), (3, .int (nI p))]) hx hb dX7_closes_71 hl (k := 4) rfl (by first | rfl | exact nI_1 _ | exact nI_add _ _) (by decide) rfl (fun ls hl => ?_)
          refine lv_goto (tgt := 10) hx hb dX7_closes_74 (by decide) ?_
          exact ih10 (i + 1) S _ _ _ (by omega) (LI_no hW.pW h8 hL (by omega) (fun z => c_31 z.1)) (by omega) hH hS (lv_sub hl [1, 2, 3, 4, 0] rfl)
        · skip
          refine lv_aload_n hx hb dX7_closes_34 rfl (lv_at hl 0 rfl) ?_
          refine x_get (C := RX7) (T := TX7) (N := 24) (ci := 7) hx hb hts iu7 hown hK hH (id := [20]) (by first | trivial | (simp only [xD]; omega) | (simp [xD]; done) | (simp [xD]; omega)) rfl rfl (by decide) 14 (by decide) (hts _ tw853) (fun _ h9 => h9) rfl (v := .ref (ga g [21, 14])) rfl dX7_closes_35 ?_
          refine lv_iload_n hx hb dX7_closes_38 rfl (lv_at hl 1 rfl) ?_
          refine x_aald hx hb hK hH (id := [21, 14]) (by first | trivial | (simp only [xD]; omega) | (simp [xD]; done) | (simp [xD]; omega)) 8 (L := 4) rfl (by decide) c rfl (by omega) (by decide) (v := .ref (ga g [22, 14, c])) (by show rq _ (if _ then _ else _) = _; rw [if_pos (show c < xLn 14 by show _ < 4; omega)]; rfl) dX7_closes_39 ?_
          refine lv_iload hx hb dX7_closes_40 (lv_at hl 4 rfl) ?_
          refine x_cald hx hb hK hH (id := [22, 14, c]) (by first | trivial | (simp only [xD]; omega) | (simp [xD]; done) | (simp [xD]; omega)) (L := 8) rfl (r := ((rw2 X S) 2)) (mW_r2 _ _ _) i rfl (by omega) (by decide) dX7_closes_42 ?_
          rw [show ((rw2 X S) 2 i) = (S i) from rfl]
          refine lv_bipush (v := 105) hx hb dX7_closes_43 (by decide) ?_
          refine lv_icmp_eq (tgt := 62) hx hb dX7_closes_45 (by decide) (fun c_45 => ?_) (fun c_45 => ?_)
          · skip
            refine lv_aload_n hx hb dX7_closes_62 rfl (lv_at hl 0 rfl) ?_
            refine lv_iload_n hx hb dX7_closes_63 rfl (lv_at hl 1 rfl) ?_
            refine lv_iload hx hb dX7_closes_64 (lv_at hl 4 rfl) ?_
            refine lv_bipush (v := 120) hx hb dX7_closes_66 (by decide) ?_
            refine x_V0 hx hb hml hown hE hS hl.1 cyX7_becomes tw1000 (c_X7_becomes_0_120 l g h I n c (rw2 X S) hc p hpp hpo hA hW i (by omega) (by have hp := pW_pA hW.pW h8 (show i < sSz h p by omega) (pA_of (P := vP I p) (by omega) c_31).2; have hq := (pA_of (P := vP I p) (i := i) (by omega) c_31).1; omega)) ⟨Nat.le_of_ble_eq_true rfl, Nat.le_of_ble_eq_true rfl⟩ ⟨Nat.le_of_ble_eq_true rfl, Nat.le_of_ble_eq_true rfl⟩ (x_recv hK hH (id := [20]) (by first | trivial | (simp only [xD]; omega) | (simp [xD]; done) | (simp [xD]; omega)) (ci := 7) rfl (by decide) rfl) hH rfl rfl (Nat.le_of_ble_eq_true rfl) dX7_closes_68 (fun H locs hH hS => ?_)
            rw [sEnd_rw2] at hH
            refine lv_iinc (v := (nI (i + 1))) (lv' := [(4, .int (nI (i + 1))), (0, .ref (ga g [20])), (1, .int (nI c)), (2, .int (nI j)), (3, .int (nI p))]) hx hb dX7_closes_71 hl (k := 4) rfl (by first | rfl | exact nI_1 _ | exact nI_add _ _) (by decide) rfl (fun ls hl => ?_)
            refine lv_goto (tgt := 10) hx hb dX7_closes_74 (by decide) ?_
            exact ih10 (i + 1) ((clE (vP I p) (sSz h p) i (fun q => if q = i then 120 else S q))) _ _ _ (by omega) (LI_yes hW.pW h8 hL (by omega) (by omega) c_31 (Or.inl c_45) (clE_LI _ hW.pW h8 (by omega))) (by omega) hH hS (lv_sub hl [1, 2, 3, 4, 0] rfl)
          · skip
            refine lv_aload_n hx hb dX7_closes_48 rfl (lv_at hl 0 rfl) ?_
            refine x_get (C := RX7) (T := TX7) (N := 24) (ci := 7) hx hb hts iu7 hown hK hH (id := [20]) (by first | trivial | (simp only [xD]; omega) | (simp [xD]; done) | (simp [xD]; omega)) rfl rfl (by decide) 14 (by decide) (hts _ tw853) (fun _ h9 => h9) rfl (v := .ref (ga g [21, 14])) rfl dX7_closes_49 ?_
            refine lv_iload_n hx hb dX7_closes_52 rfl (lv_at hl 1 rfl) ?_
            refine x_aald hx hb hK hH (id := [21, 14]) (by first | trivial | (simp only [xD]; omega) | (simp [xD]; done) | (simp [xD]; omega)) 8 (L := 4) rfl (by decide) c rfl (by omega) (by decide) (v := .ref (ga g [22, 14, c])) (by show rq _ (if _ then _ else _) = _; rw [if_pos (show c < xLn 14 by show _ < 4; omega)]; rfl) dX7_closes_53 ?_
            refine lv_iload hx hb dX7_closes_54 (lv_at hl 4 rfl) ?_
            refine x_cald hx hb hK hH (id := [22, 14, c]) (by first | trivial | (simp only [xD]; omega) | (simp [xD]; done) | (simp [xD]; omega)) (L := 8) rfl (r := ((rw2 X S) 2)) (mW_r2 _ _ _) i rfl (by omega) (by decide) dX7_closes_56 ?_
            rw [show ((rw2 X S) 2 i) = (S i) from rfl]
            refine lv_bipush (v := 97) hx hb dX7_closes_57 (by decide) ?_
            refine lv_icmp_ne (tgt := 71) hx hb dX7_closes_59 (by decide) (fun c_59 => ?_) (fun c_59 => ?_)
            · skip
              refine lv_iinc (v := (nI (i + 1))) (lv' := [(4, .int (nI (i + 1))), (0, .ref (ga g [20])), (1, .int (nI c)), (2, .int (nI j)), (3, .int (nI p))]) hx hb dX7_closes_71 hl (k := 4) rfl (by first | rfl | exact nI_1 _ | exact nI_add _ _) (by decide) rfl (fun ls hl => ?_)
              refine lv_goto (tgt := 10) hx hb dX7_closes_74 (by decide) ?_
              exact ih10 (i + 1) S _ _ _ (by omega) (LI_no hW.pW h8 hL (by omega) (fun z => z.2.elim c_45 c_59)) (by omega) hH hS (lv_sub hl [1, 2, 3, 4, 0] rfl)
            · skip
              refine lv_aload_n hx hb dX7_closes_62 rfl (lv_at hl 0 rfl) ?_
              refine lv_iload_n hx hb dX7_closes_63 rfl (lv_at hl 1 rfl) ?_
              refine lv_iload hx hb dX7_closes_64 (lv_at hl 4 rfl) ?_
              refine lv_bipush (v := 120) hx hb dX7_closes_66 (by decide) ?_
              refine x_V0 hx hb hml hown hE hS hl.1 cyX7_becomes tw1000 (c_X7_becomes_0_120 l g h I n c (rw2 X S) hc p hpp hpo hA hW i (by omega) (by have hp := pW_pA hW.pW h8 (show i < sSz h p by omega) (pA_of (P := vP I p) (by omega) c_31).2; have hq := (pA_of (P := vP I p) (i := i) (by omega) c_31).1; omega)) ⟨Nat.le_of_ble_eq_true rfl, Nat.le_of_ble_eq_true rfl⟩ ⟨Nat.le_of_ble_eq_true rfl, Nat.le_of_ble_eq_true rfl⟩ (x_recv hK hH (id := [20]) (by first | trivial | (simp only [xD]; omega) | (simp [xD]; done) | (simp [xD]; omega)) (ci := 7) rfl (by decide) rfl) hH rfl rfl (Nat.le_of_ble_eq_true rfl) dX7_closes_68 (fun H locs hH hS => ?_)
              rw [sEnd_rw2] at hH
              refine lv_iinc (v := (nI (i + 1))) (lv' := [(4, .int (nI (i + 1))), (0, .ref (ga g [20])), (1, .int (nI c)), (2, .int (nI j)), (3, .int (nI p))]) hx hb dX7_closes_71 hl (k := 4) rfl (by first | rfl | exact nI_1 _ | exact nI_add _ _) (by decide) rfl (fun ls hl => ?_)
              refine lv_goto (tgt := 10) hx hb dX7_closes_74 (by decide) ?_
              exact ih10 (i + 1) ((clE (vP I p) (sSz h p) i (fun q => if q = i then 120 else S q))) _ _ _ (by omega) (LI_yes hW.pW h8 hL (by omega) (by omega) c_31 (Or.inr c_59) (clE_LI _ hW.pW h8 (by omega))) (by omega) hH hS (lv_sub hl [1, 2, 3, 4, 0] rfl)
  exact L10 _ 0 ((X 2)) _ _ _ (Nat.zero_le _) (LI_0 _ _ _ _) (Nat.lt_succ_self _) hH hS (lv_sub hl [2, 3, 4, 1, 0] rfl)

set_option maxHeartbeats 1000000 in
set_option maxRecDepth 100000 in
theorem c_X7_becomes_1_120 (l : Launch) (g : xG) (h : xS) (I : xI) (n c : Nat) (X : xX) (hc : c < 4) (p : Nat) (hpp : p < 3) (hpo : I [24, 11] c = nI p) (hA : mA h I p) (hW : xWp h I p) (k : Nat) (hk : k < sSz h p) (hlv : sSz h p ≤ k + 1 + 1)  : xM l yX7_becomes (xws yX7_becomes cX7_becomes 4 none) 4 83 g [.ref (ga g [20]), .int (nI c), .int (nI k), .int 120] (xR g (xD h) (mW I c X) (xFh h) n) none (xR g (xD h) (mW I c (sEnd (vP I p) (sSz h p) X k 120)) (xFh h) n) 0 0 := by
  refine xM.of (by decide) (Nat.le_of_ble_eq_true rfl) ?_
  intro P_ e_ s m_ bl_ mt_ cd_ ls hx hb hr hown hlocks hml hnm hE hK hts hH hS hl
  have hl : lv_has ls 4 [(0, .ref (ga g [20])), (1, .int (nI c)), (2, .int (nI k)), (3, .int 120)] := hl
  have h8 := hW.1
  refine lv_aload_n hx hb dX7_becomes_0 rfl (lv_at hl 0 rfl) ?_
  refine x_get (C := RX7) (T := TX7) (N := 24) (ci := 7) hx hb hts iu7 hown hK hH (id := [20]) (by first | trivial | (simp only [xD]; omega) | (simp [xD]; done) | (simp [xD]; omega)) rfl rfl (by decide) 14 (by decide) (hts _ tw853) (fun _ h9 => h9) rfl (v := .ref (ga g [21, 14])) rfl dX7_becomes_1 ?_
  refine lv_iload_n hx hb dX7_becomes_4 rfl (lv_at hl 1 rfl) ?_
  refine x_aald hx hb hK hH (id := [21, 14]) (by first | trivial | (simp only [xD]; omega) | (simp [xD]; done) | (simp [xD]; omega)) 8 (L := 4) rfl (by decide) c rfl (by omega) (by decide) (v := .ref (ga g [22, 14, c])) (by show rq _ (if _ then _ else _) = _; rw [if_pos (show c < xLn 14 by show _ < 4; omega)]; rfl) dX7_becomes_5 ?_
  refine lv_iload_n hx hb dX7_becomes_6 rfl (lv_at hl 2 rfl) ?_
  refine lv_iload_n hx hb dX7_becomes_7 rfl (lv_at hl 3 rfl) ?_
  obtain ⟨X1_, hX1_⟩ : ∃ z, z = up2 X 2 k 120 := ⟨_, rfl⟩
  refine x_cast hx hb hK hH hS (id := [22, 14, c]) (by first | trivial | (simp only [xD]; omega) | (simp [xD]; done) | (simp [xD]; omega)) (L := 8) rfl k rfl (by omega) (by decide) (by rfl) ((mW_u2 _ _ _ _ _).trans (congrArg (mW I c) hX1_.symm)) dX7_becomes_8 (fun H locs hH hS => ?_)
  refine lv_aload_n hx hb dX7_becomes_9 rfl (lv_at hl 0 rfl) ?_
  refine x_get (C := RX7) (T := TX7) (N := 24) (ci := 7) hx hb hts iu7 hown hK hH (id := [20]) (by first | trivial | (simp only [xD]; omega) | (simp [xD]; done) | (simp [xD]; omega)) rfl rfl (by decide) 0 (by decide) (hts _ tw839) (fun _ h9 => h9) rfl (v := .ref (ga g [21, 0])) rfl dX7_becomes_10 ?_
  refine lv_aload_n hx hb dX7_becomes_13 rfl (lv_at hl 0 rfl) ?_
  refine x_get (C := RX7) (T := TX7) (N := 24) (ci := 7) hx hb hts iu7 hown hK hH (id := [20]) (by first | trivial | (simp only [xD]; omega) | (simp [xD]; done) | (simp [xD]; omega)) rfl rfl (by decide) 11 (by decide) (hts _ tw850) (fun _ h9 => h9) rfl (v := .ref (ga g [24, 11])) rfl dX7_becomes_14 ?_
  refine lv_iload_n hx hb dX7_becomes_17 rfl (lv_at hl 1 rfl) ?_
  refine x_iald hx hb hK hH (id := [24, 11]) (by first | trivial | (simp only [xD]; omega) | (simp [xD]; done) | (simp [xD]; omega)) (L := 4) rfl (r := (I [24, 11])) rfl c rfl (by omega) (by decide) dX7_becomes_18 ?_
  rw [show (I [24, 11] c) = (nI p) from hpo]
  refine x_aald hx hb hK hH (id := [21, 0]) (by first | trivial | (simp only [xD]; omega) | (simp [xD]; done) | (simp [xD]; omega)) 8 (L := 3) rfl (by decide) p rfl (by omega) (by decide) (v := .ref (ga g [22, 0, p])) (by show rq _ (if _ then _ else _) = _; rw [if_pos (show p < xLn 0 by show _ < 3; omega)]; rfl) dX7_becomes_19 ?_
  refine lv_iload_n hx hb dX7_becomes_20 rfl (lv_at hl 2 rfl) ?_
  refine x_cald hx hb hK hH (id := [22, 0, p]) (by first | trivial | (simp only [xD]; omega) | (simp [xD]; done) | (simp [xD]; omega)) (L := 8) rfl (r := (I [22, 0, p])) rfl k rfl (by omega) (by decide) dX7_becomes_21 ?_
  rw [show (I [22, 0, p] k) = (I [7, p, k] 0) from (hA.2 k (by omega)).1]
  refine lv_bipush (v := 115) hx hb dX7_becomes_22 (by decide) ?_
  refine lv_icmp_ne (tgt := 45) hx hb dX7_becomes_24 (by decide) (fun c_24 => ?_) (fun c_24 => ?_)
  · skip
    exact x_vret hx hb hr hlocks hS dX7_becomes_45 (by rw [sEnd_cl, ← clE_eq hW.pW h8 hk (LI_self (hW.leaf c_24)), ← up2_rw2, ← hX1_]; exact hH)
  · skip
    refine lv_iload_n hx hb dX7_becomes_27 rfl (lv_at hl 3 rfl) ?_
    refine lv_bipush (v := 99) hx hb dX7_becomes_28 (by decide) ?_
    refine lv_icmp_eq (tgt := 39) hx hb dX7_becomes_30 (by decide) (fun q_ => absurd q_ (by decide)) (fun _ => ?_)
    refine lv_iload_n hx hb dX7_becomes_33 rfl (lv_at hl 3 rfl) ?_
    refine lv_bipush (v := 120) hx hb dX7_becomes_34 (by decide) ?_
    refine lv_icmp_ne (tgt := 45) hx hb dX7_becomes_36 (by decide) (fun q_ => absurd (by decide) q_) (fun _ => ?_)
    refine lv_aload_n hx hb dX7_becomes_39 rfl (lv_at hl 0 rfl) ?_
    refine lv_iload_n hx hb dX7_becomes_40 rfl (lv_at hl 1 rfl) ?_
    refine lv_iload_n hx hb dX7_becomes_41 rfl (lv_at hl 2 rfl) ?_
    refine x_V0 hx hb hml hown hE hS hl.1 cyX7_closes tw1004 (c_X7_closes_1 l g h I n c X1_ hc p hpp hpo hA hW k hk hlv) ⟨Nat.le_of_ble_eq_true rfl, Nat.le_of_ble_eq_true rfl⟩ ⟨Nat.le_of_ble_eq_true rfl, Nat.le_of_ble_eq_true rfl⟩ (x_recv hK hH (id := [20]) (by first | trivial | (simp only [xD]; omega) | (simp [xD]; done) | (simp [xD]; omega)) (ci := 7) rfl (by decide) rfl) hH rfl rfl (Nat.le_of_ble_eq_true rfl) dX7_becomes_42 (fun H locs hH hS => ?_)
    exact x_vret hx hb hr hlocks hS dX7_becomes_45 (by rw [hX1_, rw2_up2, up2_row] at hH; exact hH)

set_option maxHeartbeats 1000000 in
set_option maxRecDepth 100000 in
theorem c_X7_closes_2 (l : Launch) (g : xG) (h : xS) (I : xI) (n c : Nat) (X : xX) (hc : c < 4) (p : Nat) (hpp : p < 3) (hpo : I [24, 11] c = nI p) (hA : mA h I p) (hW : xWp h I p) (j : Nat) (hj : j < sSz h p) (hlv : sSz h p ≤ j + 1 + 2)  : xM l yX7_closes (xws yX7_closes cX7_closes 5 none) 5 106 g [.ref (ga g [20]), .int (nI c), .int (nI j)] (xR g (xD h) (mW I c X) (xFh h) n) none (xR g (xD h) (mW I c (rw2 X (clE (vP I p) (sSz h p) j (X 2)))) (xFh h) n) 0 0 := by
  refine xM.of (by decide) (Nat.le_of_ble_eq_true rfl) ?_
  intro P_ e_ s m_ bl_ mt_ cd_ ls hx hb hr hown hlocks hml hnm hE hK hts hH hS hl
  have hl : lv_has ls 5 [(0, .ref (ga g [20])), (1, .int (nI c)), (2, .int (nI j))] := hl
  have h8 := hW.1
  refine lv_aload_n hx hb dX7_closes_0 rfl (lv_at hl 0 rfl) ?_
  refine x_get (C := RX7) (T := TX7) (N := 24) (ci := 7) hx hb hts iu7 hown hK hH (id := [20]) (by first | trivial | (simp only [xD]; omega) | (simp [xD]; done) | (simp [xD]; omega)) rfl rfl (by decide) 11 (by decide) (hts _ tw850) (fun _ h9 => h9) rfl (v := .ref (ga g [24, 11])) rfl dX7_closes_1 ?_
  refine lv_iload_n hx hb dX7_closes_4 rfl (lv_at hl 1 rfl) ?_
  refine x_iald hx hb hK hH (id := [24, 11]) (by first | trivial | (simp only [xD]; omega) | (simp [xD]; done) | (simp [xD]; omega)) (L := 4) rfl (r := (I [24, 11])) rfl c rfl (by omega) (by decide) dX7_closes_5 ?_
  rw [show (I [24, 11] c) = (nI p) from hpo]
  refine lv_istore_n (lv' := [(3, .int (nI p)), (0, .ref (ga g [20])), (1, .int (nI c)), (2, .int (nI j))]) hx hb dX7_closes_6 rfl hl (by decide) rfl (fun ls hl => ?_)
  refine lv_iconst (v := 0) hx hb dX7_closes_7 (by decide) ?_
  refine lv_istore (lv' := [(4, .int 0), (3, .int (nI p)), (0, .ref (ga g [20])), (1, .int (nI c)), (2, .int (nI j))]) hx hb dX7_closes_8 hl (by decide) rfl (fun ls hl => ?_)
  have hH : xR g (xD h) (mW I c (rw2 X (X 2))) (xFh h) n s.heap := by rw [rw2_self]; exact hH
  have L10 : ∀ (fu : Nat) (i : Nat) (S : Nat → Int32) (H : Heap) (locs : List Loc) (ls : Array Slot), (i ≤ sSz h p) → (LI (vP I p) (sSz h p) j i (X 2) S) → sSz h p - i < fu → xR g (xD h) (mW I c (rw2 X S)) (xFh h) n H → va_S (gA g) s.heap H locs → lv_has ls 5 [(0, .ref (ga g [20])), (1, .int (nI c)), (2, .int (nI j)), (3, .int (nI p)), (4, .int (nI i))] → W P_ l e_ { frames := 5, cells := 0, slots := 0, locals := 106 } s m_ ([.ref (ga g [20]), .int (nI c), .int (nI j)] : List Value).toArray bl_ mt_ cd_ H locs 0 0 (MQ bl_ (xQc g none (xR g (xD h) (mW I c (rw2 X (clE (vP I p) (sSz h p) j (X 2)))) (xFh h) n)) ([.ref (ga g [20]), .int (nI c), .int (nI j)] : List Value).toArray s 0 0 (gA g)) (F0 m_ 10 ls []) := by
    intro fu
    induction fu with
    | zero => intro i S H locs ls hi hL hfu; exact absurd hfu (Nat.not_lt_zero _)
    | succ fu ih10 =>
      intro i S H locs ls hi hL hfu hH hS hl
      refine lv_iload hx hb dX7_closes_10 (lv_at hl 4 rfl) ?_
      refine lv_aload_n hx hb dX7_closes_12 rfl (lv_at hl 0 rfl) ?_
      refine x_get (C := RX7) (T := TX7) (N := 24) (ci := 7) hx hb hts iu7 hown hK hH (id := [20]) (by first | trivial | (simp only [xD]; omega) | (simp [xD]; done) | (simp [xD]; omega)) rfl rfl (by decide) 8 (by decide) (hts _ tw847) (fun _ h9 => h9) rfl (v := .ref (ga g [24, 8])) rfl dX7_closes_13 ?_
      refine lv_iload_n hx hb dX7_closes_16 rfl (lv_at hl 3 rfl) ?_
      refine x_iald hx hb hK hH (id := [24, 8]) (by first | trivial | (simp only [xD]; omega) | (simp [xD]; done) | (simp [xD]; omega)) (L := 3) rfl (r := (I [24, 8])) rfl p rfl (by omega) (by decide) dX7_closes_17 ?_
      rw [show (I [24, 8] p) = (nI (sSz h p)) from hA.1]
      refine lv_icmp_ge (tgt := 77) hx hb dX7_closes_18 (by decide) (fun c_18 => ?_) (fun c_18 => ?_)
      · skip
        have c_18 := (nI_leI (a := (sSz h p)) (b := i) (by omega) (by omega)).mp c_18
        have e : i = sSz h p := by omega
        have hcl := clE_eq hW.pW h8 hj (show LI (vP I p) (sSz h p) j (sSz h p) (X 2) S from e ▸ hL)
        exact x_vret hx hb hr hlocks hS dX7_closes_77 (by rw [← hcl]; exact hH)
      · skip
        have c_18 : ¬ _ := fun z_ => c_18 ((nI_leI (a := (sSz h p)) (b := i) (by omega) (by omega)).mpr z_)
        refine lv_aload_n hx hb dX7_closes_21 rfl (lv_at hl 0 rfl) ?_
        refine x_get (C := RX7) (T := TX7) (N := 24) (ci := 7) hx hb hts iu7 hown hK hH (id := [20]) (by first | trivial | (simp only [xD]; omega) | (simp [xD]; done) | (simp [xD]; omega)) rfl rfl (by decide) 1 (by decide) (hts _ tw840) (fun _ h9 => h9) rfl (v := .ref (ga g [21, 1])) rfl dX7_closes_22 ?_
        refine lv_iload_n hx hb dX7_closes_25 rfl (lv_at hl 3 rfl) ?_
        refine x_aald hx hb hK hH (id := [21, 1]) (by first | trivial | (simp only [xD]; omega) | (simp [xD]; done) | (simp [xD]; omega)) 7 (L := 3) rfl (by decide) p rfl (by omega) (by decide) (v := .ref (ga g [22, 1, p])) (by show rq _ (if _ then _ else _) = _; rw [if_pos (show p < xLn 1 by show _ < 3; omega)]; rfl) dX7_closes_26 ?_
        refine lv_iload hx hb dX7_closes_27 (lv_at hl 4 rfl) ?_
        refine x_iald hx hb hK hH (id := [22, 1, p]) (by first | trivial | (simp only [xD]; omega) | (simp [xD]; done) | (simp [xD]; omega)) (L := 8) rfl (r := (I [22, 1, p])) rfl i rfl (by omega) (by decide) dX7_closes_29 ?_
        rw [show (I [22, 1, p] i) = (I [7, p, i] 1) from (hA.2 i (by omega)).2.1]
        refine lv_iload_n hx hb dX7_closes_30 rfl (lv_at hl 2 rfl) ?_
        refine lv_icmp_ne (tgt := 71) hx hb dX7_closes_31 (by decide) (fun c_31 => ?_) (fun c_31 => ?_)
        · skip
          refine lv_iinc (v := (nI (i + 1))) (lv' := [(4, .int (nI (i + 1))), (0, .ref (ga g [20])), (1, .int (nI c)), (2, .int (nI j)), (3, .int (nI p))]) hx hb dX7_closes_71 hl (k := 4) rfl (by first | rfl | exact nI_1 _ | exact nI_add _ _) (by decide) rfl (fun ls hl => ?_)
          refine lv_goto (tgt := 10) hx hb dX7_closes_74 (by decide) ?_
          exact ih10 (i + 1) S _ _ _ (by omega) (LI_no hW.pW h8 hL (by omega) (fun z => c_31 z.1)) (by omega) hH hS (lv_sub hl [1, 2, 3, 4, 0] rfl)
        · skip
          refine lv_aload_n hx hb dX7_closes_34 rfl (lv_at hl 0 rfl) ?_
          refine x_get (C := RX7) (T := TX7) (N := 24) (ci := 7) hx hb hts iu7 hown hK hH (id := [20]) (by first | trivial | (simp only [xD]; omega) | (simp [xD]; done) | (simp [xD]; omega)) rfl rfl (by decide) 14 (by decide) (hts _ tw853) (fun _ h9 => h9) rfl (v := .ref (ga g [21, 14])) rfl dX7_closes_35 ?_
          refine lv_iload_n hx hb dX7_closes_38 rfl (lv_at hl 1 rfl) ?_
          refine x_aald hx hb hK hH (id := [21, 14]) (by first | trivial | (simp only [xD]; omega) | (simp [xD]; done) | (simp [xD]; omega)) 8 (L := 4) rfl (by decide) c rfl (by omega) (by decide) (v := .ref (ga g [22, 14, c])) (by show rq _ (if _ then _ else _) = _; rw [if_pos (show c < xLn 14 by show _ < 4; omega)]; rfl) dX7_closes_39 ?_
          refine lv_iload hx hb dX7_closes_40 (lv_at hl 4 rfl) ?_
          refine x_cald hx hb hK hH (id := [22, 14, c]) (by first | trivial | (simp only [xD]; omega) | (simp [xD]; done) | (simp [xD]; omega)) (L := 8) rfl (r := ((rw2 X S) 2)) (mW_r2 _ _ _) i rfl (by omega) (by decide) dX7_closes_42 ?_
          rw [show ((rw2 X S) 2 i) = (S i) from rfl]
          refine lv_bipush (v := 105) hx hb dX7_closes_43 (by decide) ?_
          refine lv_icmp_eq (tgt := 62) hx hb dX7_closes_45 (by decide) (fun c_45 => ?_) (fun c_45 => ?_)
          · skip
            refine lv_aload_n hx hb dX7_closes_62 rfl (lv_at hl 0 rfl) ?_
            refine lv_iload_n hx hb dX7_closes_63 rfl (lv_at hl 1 rfl) ?_
            refine lv_iload hx hb dX7_closes_64 (lv_at hl 4 rfl) ?_
            refine lv_bipush (v := 120) hx hb dX7_closes_66 (by decide) ?_
            refine x_V0 hx hb hml hown hE hS hl.1 cyX7_becomes tw1000 (c_X7_becomes_1_120 l g h I n c (rw2 X S) hc p hpp hpo hA hW i (by omega) (by have hp := pW_pA hW.pW h8 (show i < sSz h p by omega) (pA_of (P := vP I p) (by omega) c_31).2; have hq := (pA_of (P := vP I p) (i := i) (by omega) c_31).1; omega)) ⟨Nat.le_of_ble_eq_true rfl, Nat.le_of_ble_eq_true rfl⟩ ⟨Nat.le_of_ble_eq_true rfl, Nat.le_of_ble_eq_true rfl⟩ (x_recv hK hH (id := [20]) (by first | trivial | (simp only [xD]; omega) | (simp [xD]; done) | (simp [xD]; omega)) (ci := 7) rfl (by decide) rfl) hH rfl rfl (Nat.le_of_ble_eq_true rfl) dX7_closes_68 (fun H locs hH hS => ?_)
            rw [sEnd_rw2] at hH
            refine lv_iinc (v := (nI (i + 1))) (lv' := [(4, .int (nI (i + 1))), (0, .ref (ga g [20])), (1, .int (nI c)), (2, .int (nI j)), (3, .int (nI p))]) hx hb dX7_closes_71 hl (k := 4) rfl (by first | rfl | exact nI_1 _ | exact nI_add _ _) (by decide) rfl (fun ls hl => ?_)
            refine lv_goto (tgt := 10) hx hb dX7_closes_74 (by decide) ?_
            exact ih10 (i + 1) ((clE (vP I p) (sSz h p) i (fun q => if q = i then 120 else S q))) _ _ _ (by omega) (LI_yes hW.pW h8 hL (by omega) (by omega) c_31 (Or.inl c_45) (clE_LI _ hW.pW h8 (by omega))) (by omega) hH hS (lv_sub hl [1, 2, 3, 4, 0] rfl)
          · skip
            refine lv_aload_n hx hb dX7_closes_48 rfl (lv_at hl 0 rfl) ?_
            refine x_get (C := RX7) (T := TX7) (N := 24) (ci := 7) hx hb hts iu7 hown hK hH (id := [20]) (by first | trivial | (simp only [xD]; omega) | (simp [xD]; done) | (simp [xD]; omega)) rfl rfl (by decide) 14 (by decide) (hts _ tw853) (fun _ h9 => h9) rfl (v := .ref (ga g [21, 14])) rfl dX7_closes_49 ?_
            refine lv_iload_n hx hb dX7_closes_52 rfl (lv_at hl 1 rfl) ?_
            refine x_aald hx hb hK hH (id := [21, 14]) (by first | trivial | (simp only [xD]; omega) | (simp [xD]; done) | (simp [xD]; omega)) 8 (L := 4) rfl (by decide) c rfl (by omega) (by decide) (v := .ref (ga g [22, 14, c])) (by show rq _ (if _ then _ else _) = _; rw [if_pos (show c < xLn 14 by show _ < 4; omega)]; rfl) dX7_closes_53 ?_
            refine lv_iload hx hb dX7_closes_54 (lv_at hl 4 rfl) ?_
            refine x_cald hx hb hK hH (id := [22, 14, c]) (by first | trivial | (simp only [xD]; omega) | (simp [xD]; done) | (simp [xD]; omega)) (L := 8) rfl (r := ((rw2 X S) 2)) (mW_r2 _ _ _) i rfl (by omega) (by decide) dX7_closes_56 ?_
            rw [show ((rw2 X S) 2 i) = (S i) from rfl]
            refine lv_bipush (v := 97) hx hb dX7_closes_57 (by decide) ?_
            refine lv_icmp_ne (tgt := 71) hx hb dX7_closes_59 (by decide) (fun c_59 => ?_) (fun c_59 => ?_)
            · skip
              refine lv_iinc (v := (nI (i + 1))) (lv' := [(4, .int (nI (i + 1))), (0, .ref (ga g [20])), (1, .int (nI c)), (2, .int (nI j)), (3, .int (nI p))]) hx hb dX7_closes_71 hl (k := 4) rfl (by first | rfl | exact nI_1 _ | exact nI_add _ _) (by decide) rfl (fun ls hl => ?_)
              refine lv_goto (tgt := 10) hx hb dX7_closes_74 (by decide) ?_
              exact ih10 (i + 1) S _ _ _ (by omega) (LI_no hW.pW h8 hL (by omega) (fun z => z.2.elim c_45 c_59)) (by omega) hH hS (lv_sub hl [1, 2, 3, 4, 0] rfl)
            · skip
              refine lv_aload_n hx hb dX7_closes_62 rfl (lv_at hl 0 rfl) ?_
              refine lv_iload_n hx hb dX7_closes_63 rfl (lv_at hl 1 rfl) ?_
              refine lv_iload hx hb dX7_closes_64 (lv_at hl 4 rfl) ?_
              refine lv_bipush (v := 120) hx hb dX7_closes_66 (by decide) ?_
              refine x_V0 hx hb hml hown hE hS hl.1 cyX7_becomes tw1000 (c_X7_becomes_1_120 l g h I n c (rw2 X S) hc p hpp hpo hA hW i (by omega) (by have hp := pW_pA hW.pW h8 (show i < sSz h p by omega) (pA_of (P := vP I p) (by omega) c_31).2; have hq := (pA_of (P := vP I p) (i := i) (by omega) c_31).1; omega)) ⟨Nat.le_of_ble_eq_true rfl, Nat.le_of_ble_eq_true rfl⟩ ⟨Nat.le_of_ble_eq_true rfl, Nat.le_of_ble_eq_true rfl⟩ (x_recv hK hH (id := [20]) (by first | trivial | (simp only [xD]; omega) | (simp [xD]; done) | (simp [xD]; omega)) (ci := 7) rfl (by decide) rfl) hH rfl rfl (Nat.le_of_ble_eq_true rfl) dX7_closes_68 (fun H locs hH hS => ?_)
              rw [sEnd_rw2] at hH
              refine lv_iinc (v := (nI (i + 1))) (lv' := [(4, .int (nI (i + 1))), (0, .ref (ga g [20])), (1, .int (nI c)), (2, .int (nI j)), (3, .int (nI p))]) hx hb dX7_closes_71 hl (k := 4) rfl (by first | rfl | exact nI_1 _ | exact nI_add _ _) (by decide) rfl (fun ls hl => ?_)
              refine lv_goto (tgt := 10) hx hb dX7_closes_74 (by decide) ?_
              exact ih10 (i + 1) ((clE (vP I p) (sSz h p) i (fun q => if q = i then 120 else S q))) _ _ _ (by omega) (LI_yes hW.pW h8 hL (by omega) (by omega) c_31 (Or.inr c_59) (clE_LI _ hW.pW h8 (by omega))) (by omega) hH hS (lv_sub hl [1, 2, 3, 4, 0] rfl)
  exact L10 _ 0 ((X 2)) _ _ _ (Nat.zero_le _) (LI_0 _ _ _ _) (Nat.lt_succ_self _) hH hS (lv_sub hl [2, 3, 4, 1, 0] rfl)

set_option maxHeartbeats 1000000 in
set_option maxRecDepth 100000 in
theorem c_X7_becomes_2_120 (l : Launch) (g : xG) (h : xS) (I : xI) (n c : Nat) (X : xX) (hc : c < 4) (p : Nat) (hpp : p < 3) (hpo : I [24, 11] c = nI p) (hA : mA h I p) (hW : xWp h I p) (k : Nat) (hk : k < sSz h p) (hlv : sSz h p ≤ k + 1 + 2)  : xM l yX7_becomes (xws yX7_becomes cX7_becomes 4 none) 6 130 g [.ref (ga g [20]), .int (nI c), .int (nI k), .int 120] (xR g (xD h) (mW I c X) (xFh h) n) none (xR g (xD h) (mW I c (sEnd (vP I p) (sSz h p) X k 120)) (xFh h) n) 0 0 := by
  refine xM.of (by decide) (Nat.le_of_ble_eq_true rfl) ?_
  intro P_ e_ s m_ bl_ mt_ cd_ ls hx hb hr hown hlocks hml hnm hE hK hts hH hS hl
  have hl : lv_has ls 4 [(0, .ref (ga g [20])), (1, .int (nI c)), (2, .int (nI k)), (3, .int 120)] := hl
  have h8 := hW.1
  refine lv_aload_n hx hb dX7_becomes_0 rfl (lv_at hl 0 rfl) ?_
  refine x_get (C := RX7) (T := TX7) (N := 24) (ci := 7) hx hb hts iu7 hown hK hH (id := [20]) (by first | trivial | (simp only [xD]; omega) | (simp [xD]; done) | (simp [xD]; omega)) rfl rfl (by decide) 14 (by decide) (hts _ tw853) (fun _ h9 => h9) rfl (v := .ref (ga g [21, 14])) rfl dX7_becomes_1 ?_
  refine lv_iload_n hx hb dX7_becomes_4 rfl (lv_at hl 1 rfl) ?_
  refine x_aald hx hb hK hH (id := [21, 14]) (by first | trivial | (simp only [xD]; omega) | (simp [xD]; done) | (simp [xD]; omega)) 8 (L := 4) rfl (by decide) c rfl (by omega) (by decide) (v := .ref (ga g [22, 14, c])) (by show rq _ (if _ then _ else _) = _; rw [if_pos (show c < xLn 14 by show _ < 4; omega)]; rfl) dX7_becomes_5 ?_
  refine lv_iload_n hx hb dX7_becomes_6 rfl (lv_at hl 2 rfl) ?_
  refine lv_iload_n hx hb dX7_becomes_7 rfl (lv_at hl 3 rfl) ?_
  obtain ⟨X1_, hX1_⟩ : ∃ z, z = up2 X 2 k 120 := ⟨_, rfl⟩
  refine x_cast hx hb hK hH hS (id := [22, 14, c]) (by first | trivial | (simp only [xD]; omega) | (simp [xD]; done) | (simp [xD]; omega)) (L := 8) rfl k rfl (by omega) (by decide) (by rfl) ((mW_u2 _ _ _ _ _).trans (congrArg (mW I c) hX1_.symm)) dX7_becomes_8 (fun H locs hH hS => ?_)
  refine lv_aload_n hx hb dX7_becomes_9 rfl (lv_at hl 0 rfl) ?_
  refine x_get (C := RX7) (T := TX7) (N := 24) (ci := 7) hx hb hts iu7 hown hK hH (id := [20]) (by first | trivial | (simp only [xD]; omega) | (simp [xD]; done) | (simp [xD]; omega)) rfl rfl (by decide) 0 (by decide) (hts _ tw839) (fun _ h9 => h9) rfl (v := .ref (ga g [21, 0])) rfl dX7_becomes_10 ?_
  refine lv_aload_n hx hb dX7_becomes_13 rfl (lv_at hl 0 rfl) ?_
  refine x_get (C := RX7) (T := TX7) (N := 24) (ci := 7) hx hb hts iu7 hown hK hH (id := [20]) (by first | trivial | (simp only [xD]; omega) | (simp [xD]; done) | (simp [xD]; omega)) rfl rfl (by decide) 11 (by decide) (hts _ tw850) (fun _ h9 => h9) rfl (v := .ref (ga g [24, 11])) rfl dX7_becomes_14 ?_
  refine lv_iload_n hx hb dX7_becomes_17 rfl (lv_at hl 1 rfl) ?_
  refine x_iald hx hb hK hH (id := [24, 11]) (by first | trivial | (simp only [xD]; omega) | (simp [xD]; done) | (simp [xD]; omega)) (L := 4) rfl (r := (I [24, 11])) rfl c rfl (by omega) (by decide) dX7_becomes_18 ?_
  rw [show (I [24, 11] c) = (nI p) from hpo]
  refine x_aald hx hb hK hH (id := [21, 0]) (by first | trivial | (simp only [xD]; omega) | (simp [xD]; done) | (simp [xD]; omega)) 8 (L := 3) rfl (by decide) p rfl (by omega) (by decide) (v := .ref (ga g [22, 0, p])) (by show rq _ (if _ then _ else _) = _; rw [if_pos (show p < xLn 0 by show _ < 3; omega)]; rfl) dX7_becomes_19 ?_
  refine lv_iload_n hx hb dX7_becomes_20 rfl (lv_at hl 2 rfl) ?_
  refine x_cald hx hb hK hH (id := [22, 0, p]) (by first | trivial | (simp only [xD]; omega) | (simp [xD]; done) | (simp [xD]; omega)) (L := 8) rfl (r := (I [22, 0, p])) rfl k rfl (by omega) (by decide) dX7_becomes_21 ?_
  rw [show (I [22, 0, p] k) = (I [7, p, k] 0) from (hA.2 k (by omega)).1]
  refine lv_bipush (v := 115) hx hb dX7_becomes_22 (by decide) ?_
  refine lv_icmp_ne (tgt := 45) hx hb dX7_becomes_24 (by decide) (fun c_24 => ?_) (fun c_24 => ?_)
  · skip
    exact x_vret hx hb hr hlocks hS dX7_becomes_45 (by rw [sEnd_cl, ← clE_eq hW.pW h8 hk (LI_self (hW.leaf c_24)), ← up2_rw2, ← hX1_]; exact hH)
  · skip
    refine lv_iload_n hx hb dX7_becomes_27 rfl (lv_at hl 3 rfl) ?_
    refine lv_bipush (v := 99) hx hb dX7_becomes_28 (by decide) ?_
    refine lv_icmp_eq (tgt := 39) hx hb dX7_becomes_30 (by decide) (fun q_ => absurd q_ (by decide)) (fun _ => ?_)
    refine lv_iload_n hx hb dX7_becomes_33 rfl (lv_at hl 3 rfl) ?_
    refine lv_bipush (v := 120) hx hb dX7_becomes_34 (by decide) ?_
    refine lv_icmp_ne (tgt := 45) hx hb dX7_becomes_36 (by decide) (fun q_ => absurd (by decide) q_) (fun _ => ?_)
    refine lv_aload_n hx hb dX7_becomes_39 rfl (lv_at hl 0 rfl) ?_
    refine lv_iload_n hx hb dX7_becomes_40 rfl (lv_at hl 1 rfl) ?_
    refine lv_iload_n hx hb dX7_becomes_41 rfl (lv_at hl 2 rfl) ?_
    refine x_V0 hx hb hml hown hE hS hl.1 cyX7_closes tw1004 (c_X7_closes_2 l g h I n c X1_ hc p hpp hpo hA hW k hk hlv) ⟨Nat.le_of_ble_eq_true rfl, Nat.le_of_ble_eq_true rfl⟩ ⟨Nat.le_of_ble_eq_true rfl, Nat.le_of_ble_eq_true rfl⟩ (x_recv hK hH (id := [20]) (by first | trivial | (simp only [xD]; omega) | (simp [xD]; done) | (simp [xD]; omega)) (ci := 7) rfl (by decide) rfl) hH rfl rfl (Nat.le_of_ble_eq_true rfl) dX7_becomes_42 (fun H locs hH hS => ?_)
    exact x_vret hx hb hr hlocks hS dX7_becomes_45 (by rw [hX1_, rw2_up2, up2_row] at hH; exact hH)

set_option maxHeartbeats 1000000 in
set_option maxRecDepth 100000 in
theorem c_X7_closes_3 (l : Launch) (g : xG) (h : xS) (I : xI) (n c : Nat) (X : xX) (hc : c < 4) (p : Nat) (hpp : p < 3) (hpo : I [24, 11] c = nI p) (hA : mA h I p) (hW : xWp h I p) (j : Nat) (hj : j < sSz h p) (hlv : sSz h p ≤ j + 1 + 3)  : xM l yX7_closes (xws yX7_closes cX7_closes 5 none) 7 153 g [.ref (ga g [20]), .int (nI c), .int (nI j)] (xR g (xD h) (mW I c X) (xFh h) n) none (xR g (xD h) (mW I c (rw2 X (clE (vP I p) (sSz h p) j (X 2)))) (xFh h) n) 0 0 := by
  refine xM.of (by decide) (Nat.le_of_ble_eq_true rfl) ?_
  intro P_ e_ s m_ bl_ mt_ cd_ ls hx hb hr hown hlocks hml hnm hE hK hts hH hS hl
  have hl : lv_has ls 5 [(0, .ref (ga g [20])), (1, .int (nI c)), (2, .int (nI j))] := hl
  have h8 := hW.1
  refine lv_aload_n hx hb dX7_closes_0 rfl (lv_at hl 0 rfl) ?_
  refine x_get (C := RX7) (T := TX7) (N := 24) (ci := 7) hx hb hts iu7 hown hK hH (id := [20]) (by first | trivial | (simp only [xD]; omega) | (simp [xD]; done) | (simp [xD]; omega)) rfl rfl (by decide) 11 (by decide) (hts _ tw850) (fun _ h9 => h9) rfl (v := .ref (ga g [24, 11])) rfl dX7_closes_1 ?_
  refine lv_iload_n hx hb dX7_closes_4 rfl (lv_at hl 1 rfl) ?_
  refine x_iald hx hb hK hH (id := [24, 11]) (by first | trivial | (simp only [xD]; omega) | (simp [xD]; done) | (simp [xD]; omega)) (L := 4) rfl (r := (I [24, 11])) rfl c rfl (by omega) (by decide) dX7_closes_5 ?_
  rw [show (I [24, 11] c) = (nI p) from hpo]
  refine lv_istore_n (lv' := [(3, .int (nI p)), (0, .ref (ga g [20])), (1, .int (nI c)), (2, .int (nI j))]) hx hb dX7_closes_6 rfl hl (by decide) rfl (fun ls hl => ?_)
  refine lv_iconst (v := 0) hx hb dX7_closes_7 (by decide) ?_
  refine lv_istore (lv' := [(4, .int 0), (3, .int (nI p)), (0, .ref (ga g [20])), (1, .int (nI c)), (2, .int (nI j))]) hx hb dX7_closes_8 hl (by decide) rfl (fun ls hl => ?_)
  have hH : xR g (xD h) (mW I c (rw2 X (X 2))) (xFh h) n s.heap := by rw [rw2_self]; exact hH
  have L10 : ∀ (fu : Nat) (i : Nat) (S : Nat → Int32) (H : Heap) (locs : List Loc) (ls : Array Slot), (i ≤ sSz h p) → (LI (vP I p) (sSz h p) j i (X 2) S) → sSz h p - i < fu → xR g (xD h) (mW I c (rw2 X S)) (xFh h) n H → va_S (gA g) s.heap H locs → lv_has ls 5 [(0, .ref (ga g [20])), (1, .int (nI c)), (2, .int (nI j)), (3, .int (nI p)), (4, .int (nI i))] → W P_ l e_ { frames := 7, cells := 0, slots := 0, locals := 153 } s m_ ([.ref (ga g [20]), .int (nI c), .int (nI j)] : List Value).toArray bl_ mt_ cd_ H locs 0 0 (MQ bl_ (xQc g none (xR g (xD h) (mW I c (rw2 X (clE (vP I p) (sSz h p) j (X 2)))) (xFh h) n)) ([.ref (ga g [20]), .int (nI c), .int (nI j)] : List Value).toArray s 0 0 (gA g)) (F0 m_ 10 ls []) := by
    intro fu
    induction fu with
    | zero => intro i S H locs ls hi hL hfu; exact absurd hfu (Nat.not_lt_zero _)
    | succ fu ih10 =>
      intro i S H locs ls hi hL hfu hH hS hl
      refine lv_iload hx hb dX7_closes_10 (lv_at hl 4 rfl) ?_
      refine lv_aload_n hx hb dX7_closes_12 rfl (lv_at hl 0 rfl) ?_
      refine x_get (C := RX7) (T := TX7) (N := 24) (ci := 7) hx hb hts iu7 hown hK hH (id := [20]) (by first | trivial | (simp only [xD]; omega) | (simp [xD]; done) | (simp [xD]; omega)) rfl rfl (by decide) 8 (by decide) (hts _ tw847) (fun _ h9 => h9) rfl (v := .ref (ga g [24, 8])) rfl dX7_closes_13 ?_
      refine lv_iload_n hx hb dX7_closes_16 rfl (lv_at hl 3 rfl) ?_
      refine x_iald hx hb hK hH (id := [24, 8]) (by first | trivial | (simp only [xD]; omega) | (simp [xD]; done) | (simp [xD]; omega)) (L := 3) rfl (r := (I [24, 8])) rfl p rfl (by omega) (by decide) dX7_closes_17 ?_
      rw [show (I [24, 8] p) = (nI (sSz h p)) from hA.1]
      refine lv_icmp_ge (tgt := 77) hx hb dX7_closes_18 (by decide) (fun c_18 => ?_) (fun c_18 => ?_)
      · skip
        have c_18 := (nI_leI (a := (sSz h p)) (b := i) (by omega) (by omega)).mp c_18
        have e : i = sSz h p := by omega
        have hcl := clE_eq hW.pW h8 hj (show LI (vP I p) (sSz h p) j (sSz h p) (X 2) S from e ▸ hL)
        exact x_vret hx hb hr hlocks hS dX7_closes_77 (by rw [← hcl]; exact hH)
      · skip
        have c_18 : ¬ _ := fun z_ => c_18 ((nI_leI (a := (sSz h p)) (b := i) (by omega) (by omega)).mpr z_)
        refine lv_aload_n hx hb dX7_closes_21 rfl (lv_at hl 0 rfl) ?_
        refine x_get (C := RX7) (T := TX7) (N := 24) (ci := 7) hx hb hts iu7 hown hK hH (id := [20]) (by first | trivial | (simp only [xD]; omega) | (simp [xD]; done) | (simp [xD]; omega)) rfl rfl (by decide) 1 (by decide) (hts _ tw840) (fun _ h9 => h9) rfl (v := .ref (ga g [21, 1])) rfl dX7_closes_22 ?_
        refine lv_iload_n hx hb dX7_closes_25 rfl (lv_at hl 3 rfl) ?_
        refine x_aald hx hb hK hH (id := [21, 1]) (by first | trivial | (simp only [xD]; omega) | (simp [xD]; done) | (simp [xD]; omega)) 7 (L := 3) rfl (by decide) p rfl (by omega) (by decide) (v := .ref (ga g [22, 1, p])) (by show rq _ (if _ then _ else _) = _; rw [if_pos (show p < xLn 1 by show _ < 3; omega)]; rfl) dX7_closes_26 ?_
        refine lv_iload hx hb dX7_closes_27 (lv_at hl 4 rfl) ?_
        refine x_iald hx hb hK hH (id := [22, 1, p]) (by first | trivial | (simp only [xD]; omega) | (simp [xD]; done) | (simp [xD]; omega)) (L := 8) rfl (r := (I [22, 1, p])) rfl i rfl (by omega) (by decide) dX7_closes_29 ?_
        rw [show (I [22, 1, p] i) = (I [7, p, i] 1) from (hA.2 i (by omega)).2.1]
        refine lv_iload_n hx hb dX7_closes_30 rfl (lv_at hl 2 rfl) ?_
        refine lv_icmp_ne (tgt := 71) hx hb dX7_closes_31 (by decide) (fun c_31 => ?_) (fun c_31 => ?_)
        · skip
          refine lv_iinc (v := (nI (i + 1))) (lv' := [(4, .int (nI (i + 1))), (0, .ref (ga g [20])), (1, .int (nI c)), (2, .int (nI j)), (3, .int (nI p))]) hx hb dX7_closes_71 hl (k := 4) rfl (by first | rfl | exact nI_1 _ | exact nI_add _ _) (by decide) rfl (fun ls hl => ?_)
          refine lv_goto (tgt := 10) hx hb dX7_closes_74 (by decide) ?_
          exact ih10 (i + 1) S _ _ _ (by omega) (LI_no hW.pW h8 hL (by omega) (fun z => c_31 z.1)) (by omega) hH hS (lv_sub hl [1, 2, 3, 4, 0] rfl)
        · skip
          refine lv_aload_n hx hb dX7_closes_34 rfl (lv_at hl 0 rfl) ?_
          refine x_get (C := RX7) (T := TX7) (N := 24) (ci := 7) hx hb hts iu7 hown hK hH (id := [20]) (by first | trivial | (simp only [xD]; omega) | (simp [xD]; done) | (simp [xD]; omega)) rfl rfl (by decide) 14 (by decide) (hts _ tw853) (fun _ h9 => h9) rfl (v := .ref (ga g [21, 14])) rfl dX7_closes_35 ?_
          refine lv_iload_n hx hb dX7_closes_38 rfl (lv_at hl 1 rfl) ?_
          refine x_aald hx hb hK hH (id := [21, 14]) (by first | trivial | (simp only [xD]; omega) | (simp [xD]; done) | (simp [xD]; omega)) 8 (L := 4) rfl (by decide) c rfl (by omega) (by decide) (v := .ref (ga g [22, 14, c])) (by show rq _ (if _ then _ else _) = _; rw [if_pos (show c < xLn 14 by show _ < 4; omega)]; rfl) dX7_closes_39 ?_
          refine lv_iload hx hb dX7_closes_40 (lv_at hl 4 rfl) ?_
          refine x_cald hx hb hK hH (id := [22, 14, c]) (by first | trivial | (simp only [xD]; omega) | (simp [xD]; done) | (simp [xD]; omega)) (L := 8) rfl (r := ((rw2 X S) 2)) (mW_r2 _ _ _) i rfl (by omega) (by decide) dX7_closes_42 ?_
          rw [show ((rw2 X S) 2 i) = (S i) from rfl]
          refine lv_bipush (v := 105) hx hb dX7_closes_43 (by decide) ?_
          refine lv_icmp_eq (tgt := 62) hx hb dX7_closes_45 (by decide) (fun c_45 => ?_) (fun c_45 => ?_)
          · skip
            refine lv_aload_n hx hb dX7_closes_62 rfl (lv_at hl 0 rfl) ?_
            refine lv_iload_n hx hb dX7_closes_63 rfl (lv_at hl 1 rfl) ?_
            refine lv_iload hx hb dX7_closes_64 (lv_at hl 4 rfl) ?_
            refine lv_bipush (v := 120) hx hb dX7_closes_66 (by decide) ?_
            refine x_V0 hx hb hml hown hE hS hl.1 cyX7_becomes tw1000 (c_X7_becomes_2_120 l g h I n c (rw2 X S) hc p hpp hpo hA hW i (by omega) (by have hp := pW_pA hW.pW h8 (show i < sSz h p by omega) (pA_of (P := vP I p) (by omega) c_31).2; have hq := (pA_of (P := vP I p) (i := i) (by omega) c_31).1; omega)) ⟨Nat.le_of_ble_eq_true rfl, Nat.le_of_ble_eq_true rfl⟩ ⟨Nat.le_of_ble_eq_true rfl, Nat.le_of_ble_eq_true rfl⟩ (x_recv hK hH (id := [20]) (by first | trivial | (simp only [xD]; omega) | (simp [xD]; done) | (simp [xD]; omega)) (ci := 7) rfl (by decide) rfl) hH rfl rfl (Nat.le_of_ble_eq_true rfl) dX7_closes_68 (fun H locs hH hS => ?_)
            rw [sEnd_rw2] at hH
            refine lv_iinc (v := (nI (i + 1))) (lv' := [(4, .int (nI (i + 1))), (0, .ref (ga g [20])), (1, .int (nI c)), (2, .int (nI j)), (3, .int (nI p))]) hx hb dX7_closes_71 hl (k := 4) rfl (by first | rfl | exact nI_1 _ | exact nI_add _ _) (by decide) rfl (fun ls hl => ?_)
            refine lv_goto (tgt := 10) hx hb dX7_closes_74 (by decide) ?_
            exact ih10 (i + 1) ((clE (vP I p) (sSz h p) i (fun q => if q = i then 120 else S q))) _ _ _ (by omega) (LI_yes hW.pW h8 hL (by omega) (by omega) c_31 (Or.inl c_45) (clE_LI _ hW.pW h8 (by omega))) (by omega) hH hS (lv_sub hl [1, 2, 3, 4, 0] rfl)
          · skip
            refine lv_aload_n hx hb dX7_closes_48 rfl (lv_at hl 0 rfl) ?_
            refine x_get (C := RX7) (T := TX7) (N := 24) (ci := 7) hx hb hts iu7 hown hK hH (id := [20]) (by first | trivial | (simp only [xD]; omega) | (simp [xD]; done) | (simp [xD]; omega)) rfl rfl (by decide) 14 (by decide) (hts _ tw853) (fun _ h9 => h9) rfl (v := .ref (ga g [21, 14])) rfl dX7_closes_49 ?_
            refine lv_iload_n hx hb dX7_closes_52 rfl (lv_at hl 1 rfl) ?_
            refine x_aald hx hb hK hH (id := [21, 14]) (by first | trivial | (simp only [xD]; omega) | (simp [xD]; done) | (simp [xD]; omega)) 8 (L := 4) rfl (by decide) c rfl (by omega) (by decide) (v := .ref (ga g [22, 14, c])) (by show rq _ (if _ then _ else _) = _; rw [if_pos (show c < xLn 14 by show _ < 4; omega)]; rfl) dX7_closes_53 ?_
            refine lv_iload hx hb dX7_closes_54 (lv_at hl 4 rfl) ?_
            refine x_cald hx hb hK hH (id := [22, 14, c]) (by first | trivial | (simp only [xD]; omega) | (simp [xD]; done) | (simp [xD]; omega)) (L := 8) rfl (r := ((rw2 X S) 2)) (mW_r2 _ _ _) i rfl (by omega) (by decide) dX7_closes_56 ?_
            rw [show ((rw2 X S) 2 i) = (S i) from rfl]
            refine lv_bipush (v := 97) hx hb dX7_closes_57 (by decide) ?_
            refine lv_icmp_ne (tgt := 71) hx hb dX7_closes_59 (by decide) (fun c_59 => ?_) (fun c_59 => ?_)
            · skip
              refine lv_iinc (v := (nI (i + 1))) (lv' := [(4, .int (nI (i + 1))), (0, .ref (ga g [20])), (1, .int (nI c)), (2, .int (nI j)), (3, .int (nI p))]) hx hb dX7_closes_71 hl (k := 4) rfl (by first | rfl | exact nI_1 _ | exact nI_add _ _) (by decide) rfl (fun ls hl => ?_)
              refine lv_goto (tgt := 10) hx hb dX7_closes_74 (by decide) ?_
              exact ih10 (i + 1) S _ _ _ (by omega) (LI_no hW.pW h8 hL (by omega) (fun z => z.2.elim c_45 c_59)) (by omega) hH hS (lv_sub hl [1, 2, 3, 4, 0] rfl)
            · skip
              refine lv_aload_n hx hb dX7_closes_62 rfl (lv_at hl 0 rfl) ?_
              refine lv_iload_n hx hb dX7_closes_63 rfl (lv_at hl 1 rfl) ?_
              refine lv_iload hx hb dX7_closes_64 (lv_at hl 4 rfl) ?_
              refine lv_bipush (v := 120) hx hb dX7_closes_66 (by decide) ?_
              refine x_V0 hx hb hml hown hE hS hl.1 cyX7_becomes tw1000 (c_X7_becomes_2_120 l g h I n c (rw2 X S) hc p hpp hpo hA hW i (by omega) (by have hp := pW_pA hW.pW h8 (show i < sSz h p by omega) (pA_of (P := vP I p) (by omega) c_31).2; have hq := (pA_of (P := vP I p) (i := i) (by omega) c_31).1; omega)) ⟨Nat.le_of_ble_eq_true rfl, Nat.le_of_ble_eq_true rfl⟩ ⟨Nat.le_of_ble_eq_true rfl, Nat.le_of_ble_eq_true rfl⟩ (x_recv hK hH (id := [20]) (by first | trivial | (simp only [xD]; omega) | (simp [xD]; done) | (simp [xD]; omega)) (ci := 7) rfl (by decide) rfl) hH rfl rfl (Nat.le_of_ble_eq_true rfl) dX7_closes_68 (fun H locs hH hS => ?_)
              rw [sEnd_rw2] at hH
              refine lv_iinc (v := (nI (i + 1))) (lv' := [(4, .int (nI (i + 1))), (0, .ref (ga g [20])), (1, .int (nI c)), (2, .int (nI j)), (3, .int (nI p))]) hx hb dX7_closes_71 hl (k := 4) rfl (by first | rfl | exact nI_1 _ | exact nI_add _ _) (by decide) rfl (fun ls hl => ?_)
              refine lv_goto (tgt := 10) hx hb dX7_closes_74 (by decide) ?_
              exact ih10 (i + 1) ((clE (vP I p) (sSz h p) i (fun q => if q = i then 120 else S q))) _ _ _ (by omega) (LI_yes hW.pW h8 hL (by omega) (by omega) c_31 (Or.inr c_59) (clE_LI _ hW.pW h8 (by omega))) (by omega) hH hS (lv_sub hl [1, 2, 3, 4, 0] rfl)
  exact L10 _ 0 ((X 2)) _ _ _ (Nat.zero_le _) (LI_0 _ _ _ _) (Nat.lt_succ_self _) hH hS (lv_sub hl [2, 3, 4, 1, 0] rfl)

set_option maxHeartbeats 1000000 in
set_option maxRecDepth 100000 in
theorem c_X7_becomes_3_120 (l : Launch) (g : xG) (h : xS) (I : xI) (n c : Nat) (X : xX) (hc : c < 4) (p : Nat) (hpp : p < 3) (hpo : I [24, 11] c = nI p) (hA : mA h I p) (hW : xWp h I p) (k : Nat) (hk : k < sSz h p) (hlv : sSz h p ≤ k + 1 + 3)  : xM l yX7_becomes (xws yX7_becomes cX7_becomes 4 none) 8 177 g [.ref (ga g [20]), .int (nI c), .int (nI k), .int 120] (xR g (xD h) (mW I c X) (xFh h) n) none (xR g (xD h) (mW I c (sEnd (vP I p) (sSz h p) X k 120)) (xFh h) n) 0 0 := by
  refine xM.of (by decide) (Nat.le_of_ble_eq_true rfl) ?_
  intro P_ e_ s m_ bl_ mt_ cd_ ls hx hb hr hown hlocks hml hnm hE hK hts hH hS hl
  have hl : lv_has ls 4 [(0, .ref (ga g [20])), (1, .int (nI c)), (2, .int (nI k)), (3, .int 120)] := hl
  have h8 := hW.1
  refine lv_aload_n hx hb dX7_becomes_0 rfl (lv_at hl 0 rfl) ?_
  refine x_get (C := RX7) (T := TX7) (N := 24) (ci := 7) hx hb hts iu7 hown hK hH (id := [20]) (by first | trivial | (simp only [xD]; omega) | (simp [xD]; done) | (simp [xD]; omega)) rfl rfl (by decide) 14 (by decide) (hts _ tw853) (fun _ h9 => h9) rfl (v := .ref (ga g [21, 14])) rfl dX7_becomes_1 ?_
  refine lv_iload_n hx hb dX7_becomes_4 rfl (lv_at hl 1 rfl) ?_
  refine x_aald hx hb hK hH (id := [21, 14]) (by first | trivial | (simp only [xD]; omega) | (simp [xD]; done) | (simp [xD]; omega)) 8 (L := 4) rfl (by decide) c rfl (by omega) (by decide) (v := .ref (ga g [22, 14, c])) (by show rq _ (if _ then _ else _) = _; rw [if_pos (show c < xLn 14 by show _ < 4; omega)]; rfl) dX7_becomes_5 ?_
  refine lv_iload_n hx hb dX7_becomes_6 rfl (lv_at hl 2 rfl) ?_
  refine lv_iload_n hx hb dX7_becomes_7 rfl (lv_at hl 3 rfl) ?_
  obtain ⟨X1_, hX1_⟩ : ∃ z, z = up2 X 2 k 120 := ⟨_, rfl⟩
  refine x_cast hx hb hK hH hS (id := [22, 14, c]) (by first | trivial | (simp only [xD]; omega) | (simp [xD]; done) | (simp [xD]; omega)) (L := 8) rfl k rfl (by omega) (by decide) (by rfl) ((mW_u2 _ _ _ _ _).trans (congrArg (mW I c) hX1_.symm)) dX7_becomes_8 (fun H locs hH hS => ?_)
  refine lv_aload_n hx hb dX7_becomes_9 rfl (lv_at hl 0 rfl) ?_
  refine x_get (C := RX7) (T := TX7) (N := 24) (ci := 7) hx hb hts iu7 hown hK hH (id := [20]) (by first | trivial | (simp only [xD]; omega) | (simp [xD]; done) | (simp [xD]; omega)) rfl rfl (by decide) 0 (by decide) (hts _ tw839) (fun _ h9 => h9) rfl (v := .ref (ga g [21, 0])) rfl dX7_becomes_10 ?_
  refine lv_aload_n hx hb dX7_becomes_13 rfl (lv_at hl 0 rfl) ?_
  refine x_get (C := RX7) (T := TX7) (N := 24) (ci := 7) hx hb hts iu7 hown hK hH (id := [20]) (by first | trivial | (simp only [xD]; omega) | (simp [xD]; done) | (simp [xD]; omega)) rfl rfl (by decide) 11 (by decide) (hts _ tw850) (fun _ h9 => h9) rfl (v := .ref (ga g [24, 11])) rfl dX7_becomes_14 ?_
  refine lv_iload_n hx hb dX7_becomes_17 rfl (lv_at hl 1 rfl) ?_
  refine x_iald hx hb hK hH (id := [24, 11]) (by first | trivial | (simp only [xD]; omega) | (simp [xD]; done) | (simp [xD]; omega)) (L := 4) rfl (r := (I [24, 11])) rfl c rfl (by omega) (by decide) dX7_becomes_18 ?_
  rw [show (I [24, 11] c) = (nI p) from hpo]
  refine x_aald hx hb hK hH (id := [21, 0]) (by first | trivial | (simp only [xD]; omega) | (simp [xD]; done) | (simp [xD]; omega)) 8 (L := 3) rfl (by decide) p rfl (by omega) (by decide) (v := .ref (ga g [22, 0, p])) (by show rq _ (if _ then _ else _) = _; rw [if_pos (show p < xLn 0 by show _ < 3; omega)]; rfl) dX7_becomes_19 ?_
  refine lv_iload_n hx hb dX7_becomes_20 rfl (lv_at hl 2 rfl) ?_
  refine x_cald hx hb hK hH (id := [22, 0, p]) (by first | trivial | (simp only [xD]; omega) | (simp [xD]; done) | (simp [xD]; omega)) (L := 8) rfl (r := (I [22, 0, p])) rfl k rfl (by omega) (by decide) dX7_becomes_21 ?_
  rw [show (I [22, 0, p] k) = (I [7, p, k] 0) from (hA.2 k (by omega)).1]
  refine lv_bipush (v := 115) hx hb dX7_becomes_22 (by decide) ?_
  refine lv_icmp_ne (tgt := 45) hx hb dX7_becomes_24 (by decide) (fun c_24 => ?_) (fun c_24 => ?_)
  · skip
    exact x_vret hx hb hr hlocks hS dX7_becomes_45 (by rw [sEnd_cl, ← clE_eq hW.pW h8 hk (LI_self (hW.leaf c_24)), ← up2_rw2, ← hX1_]; exact hH)
  · skip
    refine lv_iload_n hx hb dX7_becomes_27 rfl (lv_at hl 3 rfl) ?_
    refine lv_bipush (v := 99) hx hb dX7_becomes_28 (by decide) ?_
    refine lv_icmp_eq (tgt := 39) hx hb dX7_becomes_30 (by decide) (fun q_ => absurd q_ (by decide)) (fun _ => ?_)
    refine lv_iload_n hx hb dX7_becomes_33 rfl (lv_at hl 3 rfl) ?_
    refine lv_bipush (v := 120) hx hb dX7_becomes_34 (by decide) ?_
    refine lv_icmp_ne (tgt := 45) hx hb dX7_becomes_36 (by decide) (fun q_ => absurd (by decide) q_) (fun _ => ?_)
    refine lv_aload_n hx hb dX7_becomes_39 rfl (lv_at hl 0 rfl) ?_
    refine lv_iload_n hx hb dX7_becomes_40 rfl (lv_at hl 1 rfl) ?_
    refine lv_iload_n hx hb dX7_becomes_41 rfl (lv_at hl 2 rfl) ?_
    refine x_V0 hx hb hml hown hE hS hl.1 cyX7_closes tw1004 (c_X7_closes_3 l g h I n c X1_ hc p hpp hpo hA hW k hk hlv) ⟨Nat.le_of_ble_eq_true rfl, Nat.le_of_ble_eq_true rfl⟩ ⟨Nat.le_of_ble_eq_true rfl, Nat.le_of_ble_eq_true rfl⟩ (x_recv hK hH (id := [20]) (by first | trivial | (simp only [xD]; omega) | (simp [xD]; done) | (simp [xD]; omega)) (ci := 7) rfl (by decide) rfl) hH rfl rfl (Nat.le_of_ble_eq_true rfl) dX7_becomes_42 (fun H locs hH hS => ?_)
    exact x_vret hx hb hr hlocks hS dX7_becomes_45 (by rw [hX1_, rw2_up2, up2_row] at hH; exact hH)

set_option maxHeartbeats 1000000 in
set_option maxRecDepth 100000 in
theorem c_X7_closes_4 (l : Launch) (g : xG) (h : xS) (I : xI) (n c : Nat) (X : xX) (hc : c < 4) (p : Nat) (hpp : p < 3) (hpo : I [24, 11] c = nI p) (hA : mA h I p) (hW : xWp h I p) (j : Nat) (hj : j < sSz h p) (hlv : sSz h p ≤ j + 1 + 4)  : xM l yX7_closes (xws yX7_closes cX7_closes 5 none) 9 200 g [.ref (ga g [20]), .int (nI c), .int (nI j)] (xR g (xD h) (mW I c X) (xFh h) n) none (xR g (xD h) (mW I c (rw2 X (clE (vP I p) (sSz h p) j (X 2)))) (xFh h) n) 0 0 := by
  refine xM.of (by decide) (Nat.le_of_ble_eq_true rfl) ?_
  intro P_ e_ s m_ bl_ mt_ cd_ ls hx hb hr hown hlocks hml hnm hE hK hts hH hS hl
  have hl : lv_has ls 5 [(0, .ref (ga g [20])), (1, .int (nI c)), (2, .int (nI j))] := hl
  have h8 := hW.1
  refine lv_aload_n hx hb dX7_closes_0 rfl (lv_at hl 0 rfl) ?_
  refine x_get (C := RX7) (T := TX7) (N := 24) (ci := 7) hx hb hts iu7 hown hK hH (id := [20]) (by first | trivial | (simp only [xD]; omega) | (simp [xD]; done) | (simp [xD]; omega)) rfl rfl (by decide) 11 (by decide) (hts _ tw850) (fun _ h9 => h9) rfl (v := .ref (ga g [24, 11])) rfl dX7_closes_1 ?_
  refine lv_iload_n hx hb dX7_closes_4 rfl (lv_at hl 1 rfl) ?_
  refine x_iald hx hb hK hH (id := [24, 11]) (by first | trivial | (simp only [xD]; omega) | (simp [xD]; done) | (simp [xD]; omega)) (L := 4) rfl (r := (I [24, 11])) rfl c rfl (by omega) (by decide) dX7_closes_5 ?_
  rw [show (I [24, 11] c) = (nI p) from hpo]
  refine lv_istore_n (lv' := [(3, .int (nI p)), (0, .ref (ga g [20])), (1, .int (nI c)), (2, .int (nI j))]) hx hb dX7_closes_6 rfl hl (by decide) rfl (fun ls hl => ?_)
  refine lv_iconst (v := 0) hx hb dX7_closes_7 (by decide) ?_
  refine lv_istore (lv' := [(4, .int 0), (3, .int (nI p)), (0, .ref (ga g [20])), (1, .int (nI c)), (2, .int (nI j))]) hx hb dX7_closes_8 hl (by decide) rfl (fun ls hl => ?_)
  have hH : xR g (xD h) (mW I c (rw2 X (X 2))) (xFh h) n s.heap := by rw [rw2_self]; exact hH
  have L10 : ∀ (fu : Nat) (i : Nat) (S : Nat → Int32) (H : Heap) (locs : List Loc) (ls : Array Slot), (i ≤ sSz h p) → (LI (vP I p) (sSz h p) j i (X 2) S) → sSz h p - i < fu → xR g (xD h) (mW I c (rw2 X S)) (xFh h) n H → va_S (gA g) s.heap H locs → lv_has ls 5 [(0, .ref (ga g [20])), (1, .int (nI c)), (2, .int (nI j)), (3, .int (nI p)), (4, .int (nI i))] → W P_ l e_ { frames := 9, cells := 0, slots := 0, locals := 200 } s m_ ([.ref (ga g [20]), .int (nI c), .int (nI j)] : List Value).toArray bl_ mt_ cd_ H locs 0 0 (MQ bl_ (xQc g none (xR g (xD h) (mW I c (rw2 X (clE (vP I p) (sSz h p) j (X 2)))) (xFh h) n)) ([.ref (ga g [20]), .int (nI c), .int (nI j)] : List Value).toArray s 0 0 (gA g)) (F0 m_ 10 ls []) := by
    intro fu
    induction fu with
    | zero => intro i S H locs ls hi hL hfu; exact absurd hfu (Nat.not_lt_zero _)
    | succ fu ih10 =>
      intro i S H locs ls hi hL hfu hH hS hl
      refine lv_iload hx hb dX7_closes_10 (lv_at hl 4 rfl) ?_
      refine lv_aload_n hx hb dX7_closes_12 rfl (lv_at hl 0 rfl) ?_
      refine x_get (C := RX7) (T := TX7) (N := 24) (ci := 7) hx hb hts iu7 hown hK hH (id := [20]) (by first | trivial | (simp only [xD]; omega) | (simp [xD]; done) | (simp [xD]; omega)) rfl rfl (by decide) 8 (by decide) (hts _ tw847) (fun _ h9 => h9) rfl (v := .ref (ga g [24, 8])) rfl dX7_closes_13 ?_
      refine lv_iload_n hx hb dX7_closes_16 rfl (lv_at hl 3 rfl) ?_
      refine x_iald hx hb hK hH (id := [24, 8]) (by first | trivial | (simp only [xD]; omega) | (simp [xD]; done) | (simp [xD]; omega)) (L := 3) rfl (r := (I [24, 8])) rfl p rfl (by omega) (by decide) dX7_closes_17 ?_
      rw [show (I [24, 8] p) = (nI (sSz h p)) from hA.1]
      refine lv_icmp_ge (tgt := 77) hx hb dX7_closes_18 (by decide) (fun c_18 => ?_) (fun c_18 => ?_)
      · skip
        have c_18 := (nI_leI (a := (sSz h p)) (b := i) (by omega) (by omega)).mp c_18
        have e : i = sSz h p := by omega
        have hcl := clE_eq hW.pW h8 hj (show LI (vP I p) (sSz h p) j (sSz h p) (X 2) S from e ▸ hL)
        exact x_vret hx hb hr hlocks hS dX7_closes_77 (by rw [← hcl]; exact hH)
      · skip
        have c_18 : ¬ _ := fun z_ => c_18 ((nI_leI (a := (sSz h p)) (b := i) (by omega) (by omega)).mpr z_)
        refine lv_aload_n hx hb dX7_closes_21 rfl (lv_at hl 0 rfl) ?_
        refine x_get (C := RX7) (T := TX7) (N := 24) (ci := 7) hx hb hts iu7 hown hK hH (id := [20]) (by first | trivial | (simp only [xD]; omega) | (simp [xD]; done) | (simp [xD]; omega)) rfl rfl (by decide) 1 (by decide) (hts _ tw840) (fun _ h9 => h9) rfl (v := .ref (ga g [21, 1])) rfl dX7_closes_22 ?_
        refine lv_iload_n hx hb dX7_closes_25 rfl (lv_at hl 3 rfl) ?_
        refine x_aald hx hb hK hH (id := [21, 1]) (by first | trivial | (simp only [xD]; omega) | (simp [xD]; done) | (simp [xD]; omega)) 7 (L := 3) rfl (by decide) p rfl (by omega) (by decide) (v := .ref (ga g [22, 1, p])) (by show rq _ (if _ then _ else _) = _; rw [if_pos (show p < xLn 1 by show _ < 3; omega)]; rfl) dX7_closes_26 ?_
        refine lv_iload hx hb dX7_closes_27 (lv_at hl 4 rfl) ?_
        refine x_iald hx hb hK hH (id := [22, 1, p]) (by first | trivial | (simp only [xD]; omega) | (simp [xD]; done) | (simp [xD]; omega)) (L := 8) rfl (r := (I [22, 1, p])) rfl i rfl (by omega) (by decide) dX7_closes_29 ?_
        rw [show (I [22, 1, p] i) = (I [7, p, i] 1) from (hA.2 i (by omega)).2.1]
        refine lv_iload_n hx hb dX7_closes_30 rfl (lv_at hl 2 rfl) ?_
        refine lv_icmp_ne (tgt := 71) hx hb dX7_closes_31 (by decide) (fun c_31 => ?_) (fun c_31 => ?_)
        · skip
          refine lv_iinc (v := (nI (i + 1))) (lv' := [(4, .int (nI (i + 1))), (0, .ref (ga g [20])), (1, .int (nI c)), (2, .int (nI j)), (3, .int (nI p))]) hx hb dX7_closes_71 hl (k := 4) rfl (by first | rfl | exact nI_1 _ | exact nI_add _ _) (by decide) rfl (fun ls hl => ?_)
          refine lv_goto (tgt := 10) hx hb dX7_closes_74 (by decide) ?_
          exact ih10 (i + 1) S _ _ _ (by omega) (LI_no hW.pW h8 hL (by omega) (fun z => c_31 z.1)) (by omega) hH hS (lv_sub hl [1, 2, 3, 4, 0] rfl)
        · skip
          refine lv_aload_n hx hb dX7_closes_34 rfl (lv_at hl 0 rfl) ?_
          refine x_get (C := RX7) (T := TX7) (N := 24) (ci := 7) hx hb hts iu7 hown hK hH (id := [20]) (by first | trivial | (simp only [xD]; omega) | (simp [xD]; done) | (simp [xD]; omega)) rfl rfl (by decide) 14 (by decide) (hts _ tw853) (fun _ h9 => h9) rfl (v := .ref (ga g [21, 14])) rfl dX7_closes_35 ?_
          refine lv_iload_n hx hb dX7_closes_38 rfl (lv_at hl 1 rfl) ?_
          refine x_aald hx hb hK hH (id := [21, 14]) (by first | trivial | (simp only [xD]; omega) | (simp [xD]; done) | (simp [xD]; omega)) 8 (L := 4) rfl (by decide) c rfl (by omega) (by decide) (v := .ref (ga g [22, 14, c])) (by show rq _ (if _ then _ else _) = _; rw [if_pos (show c < xLn 14 by show _ < 4; omega)]; rfl) dX7_closes_39 ?_
          refine lv_iload hx hb dX7_closes_40 (lv_at hl 4 rfl) ?_
          refine x_cald hx hb hK hH (id := [22, 14, c]) (by first | trivial | (simp only [xD]; omega) | (simp [xD]; done) | (simp [xD]; omega)) (L := 8) rfl (r := ((rw2 X S) 2)) (mW_r2 _ _ _) i rfl (by omega) (by decide) dX7_closes_42 ?_
          rw [show ((rw2 X S) 2 i) = (S i) from rfl]
          refine lv_bipush (v := 105) hx hb dX7_closes_43 (by decide) ?_
          refine lv_icmp_eq (tgt := 62) hx hb dX7_closes_45 (by decide) (fun c_45 => ?_) (fun c_45 => ?_)
          · skip
            refine lv_aload_n hx hb dX7_closes_62 rfl (lv_at hl 0 rfl) ?_
            refine lv_iload_n hx hb dX7_closes_63 rfl (lv_at hl 1 rfl) ?_
            refine lv_iload hx hb dX7_closes_64 (lv_at hl 4 rfl) ?_
            refine lv_bipush (v := 120) hx hb dX7_closes_66 (by decide) ?_
            refine x_V0 hx hb hml hown hE hS hl.1 cyX7_becomes tw1000 (c_X7_becomes_3_120 l g h I n c (rw2 X S) hc p hpp hpo hA hW i (by omega) (by have hp := pW_pA hW.pW h8 (show i < sSz h p by omega) (pA_of (P := vP I p) (by omega) c_31).2; have hq := (pA_of (P := vP I p) (i := i) (by omega) c_31).1; omega)) ⟨Nat.le_of_ble_eq_true rfl, Nat.le_of_ble_eq_true rfl⟩ ⟨Nat.le_of_ble_eq_true rfl, Nat.le_of_ble_eq_true rfl⟩ (x_recv hK hH (id := [20]) (by first | trivial | (simp only [xD]; omega) | (simp [xD]; done) | (simp [xD]; omega)) (ci := 7) rfl (by decide) rfl) hH rfl rfl (Nat.le_of_ble_eq_true rfl) dX7_closes_68 (fun H locs hH hS => ?_)
            rw [sEnd_rw2] at hH
            refine lv_iinc (v := (nI (i + 1))) (lv' := [(4, .int (nI (i + 1))), (0, .ref (ga g [20])), (1, .int (nI c)), (2, .int (nI j)), (3, .int (nI p))]) hx hb dX7_closes_71 hl (k := 4) rfl (by first | rfl | exact nI_1 _ | exact nI_add _ _) (by decide) rfl (fun ls hl => ?_)
            refine lv_goto (tgt := 10) hx hb dX7_closes_74 (by decide) ?_
            exact ih10 (i + 1) ((clE (vP I p) (sSz h p) i (fun q => if q = i then 120 else S q))) _ _ _ (by omega) (LI_yes hW.pW h8 hL (by omega) (by omega) c_31 (Or.inl c_45) (clE_LI _ hW.pW h8 (by omega))) (by omega) hH hS (lv_sub hl [1, 2, 3, 4, 0] rfl)
          · skip
            refine lv_aload_n hx hb dX7_closes_48 rfl (lv_at hl 0 rfl) ?_
            refine x_get (C := RX7) (T := TX7) (N := 24) (ci := 7) hx hb hts iu7 hown hK hH (id := [20]) (by first | trivial | (simp only [xD]; omega) | (simp [xD]; done) | (simp [xD]; omega)) rfl rfl (by decide) 14 (by decide) (hts _ tw853) (fun _ h9 => h9) rfl (v := .ref (ga g [21, 14])) rfl dX7_closes_49 ?_
            refine lv_iload_n hx hb dX7_closes_52 rfl (lv_at hl 1 rfl) ?_
            refine x_aald hx hb hK hH (id := [21, 14]) (by first | trivial | (simp only [xD]; omega) | (simp [xD]; done) | (simp [xD]; omega)) 8 (L := 4) rfl (by decide) c rfl (by omega) (by decide) (v := .ref (ga g [22, 14, c])) (by show rq _ (if _ then _ else _) = _; rw [if_pos (show c < xLn 14 by show _ < 4; omega)]; rfl) dX7_closes_53 ?_
            refine lv_iload hx hb dX7_closes_54 (lv_at hl 4 rfl) ?_
            refine x_cald hx hb hK hH (id := [22, 14, c]) (by first | trivial | (simp only [xD]; omega) | (simp [xD]; done) | (simp [xD]; omega)) (L := 8) rfl (r := ((rw2 X S) 2)) (mW_r2 _ _ _) i rfl (by omega) (by decide) dX7_closes_56 ?_
            rw [show ((rw2 X S) 2 i) = (S i) from rfl]
            refine lv_bipush (v := 97) hx hb dX7_closes_57 (by decide) ?_
            refine lv_icmp_ne (tgt := 71) hx hb dX7_closes_59 (by decide) (fun c_59 => ?_) (fun c_59 => ?_)
            · skip
              refine lv_iinc (v := (nI (i + 1))) (lv' := [(4, .int (nI (i + 1))), (0, .ref (ga g [20])), (1, .int (nI c)), (2, .int (nI j)), (3, .int (nI p))]) hx hb dX7_closes_71 hl (k := 4) rfl (by first | rfl | exact nI_1 _ | exact nI_add _ _) (by decide) rfl (fun ls hl => ?_)
              refine lv_goto (tgt := 10) hx hb dX7_closes_74 (by decide) ?_
              exact ih10 (i + 1) S _ _ _ (by omega) (LI_no hW.pW h8 hL (by omega) (fun z => z.2.elim c_45 c_59)) (by omega) hH hS (lv_sub hl [1, 2, 3, 4, 0] rfl)
            · skip
              refine lv_aload_n hx hb dX7_closes_62 rfl (lv_at hl 0 rfl) ?_
              refine lv_iload_n hx hb dX7_closes_63 rfl (lv_at hl 1 rfl) ?_
              refine lv_iload hx hb dX7_closes_64 (lv_at hl 4 rfl) ?_
              refine lv_bipush (v := 120) hx hb dX7_closes_66 (by decide) ?_
              refine x_V0 hx hb hml hown hE hS hl.1 cyX7_becomes tw1000 (c_X7_becomes_3_120 l g h I n c (rw2 X S) hc p hpp hpo hA hW i (by omega) (by have hp := pW_pA hW.pW h8 (show i < sSz h p by omega) (pA_of (P := vP I p) (by omega) c_31).2; have hq := (pA_of (P := vP I p) (i := i) (by omega) c_31).1; omega)) ⟨Nat.le_of_ble_eq_true rfl, Nat.le_of_ble_eq_true rfl⟩ ⟨Nat.le_of_ble_eq_true rfl, Nat.le_of_ble_eq_true rfl⟩ (x_recv hK hH (id := [20]) (by first | trivial | (simp only [xD]; omega) | (simp [xD]; done) | (simp [xD]; omega)) (ci := 7) rfl (by decide) rfl) hH rfl rfl (Nat.le_of_ble_eq_true rfl) dX7_closes_68 (fun H locs hH hS => ?_)
              rw [sEnd_rw2] at hH
              refine lv_iinc (v := (nI (i + 1))) (lv' := [(4, .int (nI (i + 1))), (0, .ref (ga g [20])), (1, .int (nI c)), (2, .int (nI j)), (3, .int (nI p))]) hx hb dX7_closes_71 hl (k := 4) rfl (by first | rfl | exact nI_1 _ | exact nI_add _ _) (by decide) rfl (fun ls hl => ?_)
              refine lv_goto (tgt := 10) hx hb dX7_closes_74 (by decide) ?_
              exact ih10 (i + 1) ((clE (vP I p) (sSz h p) i (fun q => if q = i then 120 else S q))) _ _ _ (by omega) (LI_yes hW.pW h8 hL (by omega) (by omega) c_31 (Or.inr c_59) (clE_LI _ hW.pW h8 (by omega))) (by omega) hH hS (lv_sub hl [1, 2, 3, 4, 0] rfl)
  exact L10 _ 0 ((X 2)) _ _ _ (Nat.zero_le _) (LI_0 _ _ _ _) (Nat.lt_succ_self _) hH hS (lv_sub hl [2, 3, 4, 1, 0] rfl)

set_option maxHeartbeats 1000000 in
set_option maxRecDepth 100000 in
theorem c_X7_becomes_4_120 (l : Launch) (g : xG) (h : xS) (I : xI) (n c : Nat) (X : xX) (hc : c < 4) (p : Nat) (hpp : p < 3) (hpo : I [24, 11] c = nI p) (hA : mA h I p) (hW : xWp h I p) (k : Nat) (hk : k < sSz h p) (hlv : sSz h p ≤ k + 1 + 4)  : xM l yX7_becomes (xws yX7_becomes cX7_becomes 4 none) 10 224 g [.ref (ga g [20]), .int (nI c), .int (nI k), .int 120] (xR g (xD h) (mW I c X) (xFh h) n) none (xR g (xD h) (mW I c (sEnd (vP I p) (sSz h p) X k 120)) (xFh h) n) 0 0 := by
  refine xM.of (by decide) (Nat.le_of_ble_eq_true rfl) ?_
  intro P_ e_ s m_ bl_ mt_ cd_ ls hx hb hr hown hlocks hml hnm hE hK hts hH hS hl
  have hl : lv_has ls 4 [(0, .ref (ga g [20])), (1, .int (nI c)), (2, .int (nI k)), (3, .int 120)] := hl
  have h8 := hW.1
  refine lv_aload_n hx hb dX7_becomes_0 rfl (lv_at hl 0 rfl) ?_
  refine x_get (C := RX7) (T := TX7) (N := 24) (ci := 7) hx hb hts iu7 hown hK hH (id := [20]) (by first | trivial | (simp only [xD]; omega) | (simp [xD]; done) | (simp [xD]; omega)) rfl rfl (by decide) 14 (by decide) (hts _ tw853) (fun _ h9 => h9) rfl (v := .ref (ga g [21, 14])) rfl dX7_becomes_1 ?_
  refine lv_iload_n hx hb dX7_becomes_4 rfl (lv_at hl 1 rfl) ?_
  refine x_aald hx hb hK hH (id := [21, 14]) (by first | trivial | (simp only [xD]; omega) | (simp [xD]; done) | (simp [xD]; omega)) 8 (L := 4) rfl (by decide) c rfl (by omega) (by decide) (v := .ref (ga g [22, 14, c])) (by show rq _ (if _ then _ else _) = _; rw [if_pos (show c < xLn 14 by show _ < 4; omega)]; rfl) dX7_becomes_5 ?_
  refine lv_iload_n hx hb dX7_becomes_6 rfl (lv_at hl 2 rfl) ?_
  refine lv_iload_n hx hb dX7_becomes_7 rfl (lv_at hl 3 rfl) ?_
  obtain ⟨X1_, hX1_⟩ : ∃ z, z = up2 X 2 k 120 := ⟨_, rfl⟩
  refine x_cast hx hb hK hH hS (id := [22, 14, c]) (by first | trivial | (simp only [xD]; omega) | (simp [xD]; done) | (simp [xD]; omega)) (L := 8) rfl k rfl (by omega) (by decide) (by rfl) ((mW_u2 _ _ _ _ _).trans (congrArg (mW I c) hX1_.symm)) dX7_becomes_8 (fun H locs hH hS => ?_)
  refine lv_aload_n hx hb dX7_becomes_9 rfl (lv_at hl 0 rfl) ?_
  refine x_get (C := RX7) (T := TX7) (N := 24) (ci := 7) hx hb hts iu7 hown hK hH (id := [20]) (by first | trivial | (simp only [xD]; omega) | (simp [xD]; done) | (simp [xD]; omega)) rfl rfl (by decide) 0 (by decide) (hts _ tw839) (fun _ h9 => h9) rfl (v := .ref (ga g [21, 0])) rfl dX7_becomes_10 ?_
  refine lv_aload_n hx hb dX7_becomes_13 rfl (lv_at hl 0 rfl) ?_
  refine x_get (C := RX7) (T := TX7) (N := 24) (ci := 7) hx hb hts iu7 hown hK hH (id := [20]) (by first | trivial | (simp only [xD]; omega) | (simp [xD]; done) | (simp [xD]; omega)) rfl rfl (by decide) 11 (by decide) (hts _ tw850) (fun _ h9 => h9) rfl (v := .ref (ga g [24, 11])) rfl dX7_becomes_14 ?_
  refine lv_iload_n hx hb dX7_becomes_17 rfl (lv_at hl 1 rfl) ?_
  refine x_iald hx hb hK hH (id := [24, 11]) (by first | trivial | (simp only [xD]; omega) | (simp [xD]; done) | (simp [xD]; omega)) (L := 4) rfl (r := (I [24, 11])) rfl c rfl (by omega) (by decide) dX7_becomes_18 ?_
  rw [show (I [24, 11] c) = (nI p) from hpo]
  refine x_aald hx hb hK hH (id := [21, 0]) (by first | trivial | (simp only [xD]; omega) | (simp [xD]; done) | (simp [xD]; omega)) 8 (L := 3) rfl (by decide) p rfl (by omega) (by decide) (v := .ref (ga g [22, 0, p])) (by show rq _ (if _ then _ else _) = _; rw [if_pos (show p < xLn 0 by show _ < 3; omega)]; rfl) dX7_becomes_19 ?_
  refine lv_iload_n hx hb dX7_becomes_20 rfl (lv_at hl 2 rfl) ?_
  refine x_cald hx hb hK hH (id := [22, 0, p]) (by first | trivial | (simp only [xD]; omega) | (simp [xD]; done) | (simp [xD]; omega)) (L := 8) rfl (r := (I [22, 0, p])) rfl k rfl (by omega) (by decide) dX7_becomes_21 ?_
  rw [show (I [22, 0, p] k) = (I [7, p, k] 0) from (hA.2 k (by omega)).1]
  refine lv_bipush (v := 115) hx hb dX7_becomes_22 (by decide) ?_
  refine lv_icmp_ne (tgt := 45) hx hb dX7_becomes_24 (by decide) (fun c_24 => ?_) (fun c_24 => ?_)
  · skip
    exact x_vret hx hb hr hlocks hS dX7_becomes_45 (by rw [sEnd_cl, ← clE_eq hW.pW h8 hk (LI_self (hW.leaf c_24)), ← up2_rw2, ← hX1_]; exact hH)
  · skip
    refine lv_iload_n hx hb dX7_becomes_27 rfl (lv_at hl 3 rfl) ?_
    refine lv_bipush (v := 99) hx hb dX7_becomes_28 (by decide) ?_
    refine lv_icmp_eq (tgt := 39) hx hb dX7_becomes_30 (by decide) (fun q_ => absurd q_ (by decide)) (fun _ => ?_)
    refine lv_iload_n hx hb dX7_becomes_33 rfl (lv_at hl 3 rfl) ?_
    refine lv_bipush (v := 120) hx hb dX7_becomes_34 (by decide) ?_
    refine lv_icmp_ne (tgt := 45) hx hb dX7_becomes_36 (by decide) (fun q_ => absurd (by decide) q_) (fun _ => ?_)
    refine lv_aload_n hx hb dX7_becomes_39 rfl (lv_at hl 0 rfl) ?_
    refine lv_iload_n hx hb dX7_becomes_40 rfl (lv_at hl 1 rfl) ?_
    refine lv_iload_n hx hb dX7_becomes_41 rfl (lv_at hl 2 rfl) ?_
    refine x_V0 hx hb hml hown hE hS hl.1 cyX7_closes tw1004 (c_X7_closes_4 l g h I n c X1_ hc p hpp hpo hA hW k hk hlv) ⟨Nat.le_of_ble_eq_true rfl, Nat.le_of_ble_eq_true rfl⟩ ⟨Nat.le_of_ble_eq_true rfl, Nat.le_of_ble_eq_true rfl⟩ (x_recv hK hH (id := [20]) (by first | trivial | (simp only [xD]; omega) | (simp [xD]; done) | (simp [xD]; omega)) (ci := 7) rfl (by decide) rfl) hH rfl rfl (Nat.le_of_ble_eq_true rfl) dX7_becomes_42 (fun H locs hH hS => ?_)
    exact x_vret hx hb hr hlocks hS dX7_becomes_45 (by rw [hX1_, rw2_up2, up2_row] at hH; exact hH)

set_option maxHeartbeats 1000000 in
set_option maxRecDepth 100000 in
theorem c_X7_closes_5 (l : Launch) (g : xG) (h : xS) (I : xI) (n c : Nat) (X : xX) (hc : c < 4) (p : Nat) (hpp : p < 3) (hpo : I [24, 11] c = nI p) (hA : mA h I p) (hW : xWp h I p) (j : Nat) (hj : j < sSz h p) (hlv : sSz h p ≤ j + 1 + 5)  : xM l yX7_closes (xws yX7_closes cX7_closes 5 none) 11 247 g [.ref (ga g [20]), .int (nI c), .int (nI j)] (xR g (xD h) (mW I c X) (xFh h) n) none (xR g (xD h) (mW I c (rw2 X (clE (vP I p) (sSz h p) j (X 2)))) (xFh h) n) 0 0 := by
  refine xM.of (by decide) (Nat.le_of_ble_eq_true rfl) ?_
  intro P_ e_ s m_ bl_ mt_ cd_ ls hx hb hr hown hlocks hml hnm hE hK hts hH hS hl
  have hl : lv_has ls 5 [(0, .ref (ga g [20])), (1, .int (nI c)), (2, .int (nI j))] := hl
  have h8 := hW.1
  refine lv_aload_n hx hb dX7_closes_0 rfl (lv_at hl 0 rfl) ?_
  refine x_get (C := RX7) (T := TX7) (N := 24) (ci := 7) hx hb hts iu7 hown hK hH (id := [20]) (by first | trivial | (simp only [xD]; omega) | (simp [xD]; done) | (simp [xD]; omega)) rfl rfl (by decide) 11 (by decide) (hts _ tw850) (fun _ h9 => h9) rfl (v := .ref (ga g [24, 11])) rfl dX7_closes_1 ?_
  refine lv_iload_n hx hb dX7_closes_4 rfl (lv_at hl 1 rfl) ?_
  refine x_iald hx hb hK hH (id := [24, 11]) (by first | trivial | (simp only [xD]; omega) | (simp [xD]; done) | (simp [xD]; omega)) (L := 4) rfl (r := (I [24, 11])) rfl c rfl (by omega) (by decide) dX7_closes_5 ?_
  rw [show (I [24, 11] c) = (nI p) from hpo]
  refine lv_istore_n (lv' := [(3, .int (nI p)), (0, .ref (ga g [20])), (1, .int (nI c)), (2, .int (nI j))]) hx hb dX7_closes_6 rfl hl (by decide) rfl (fun ls hl => ?_)
  refine lv_iconst (v := 0) hx hb dX7_closes_7 (by decide) ?_
  refine lv_istore (lv' := [(4, .int 0), (3, .int (nI p)), (0, .ref (ga g [20])), (1, .int (nI c)), (2, .int (nI j))]) hx hb dX7_closes_8 hl (by decide) rfl (fun ls hl => ?_)
  have hH : xR g (xD h) (mW I c (rw2 X (X 2))) (xFh h) n s.heap := by rw [rw2_self]; exact hH
  have L10 : ∀ (fu : Nat) (i : Nat) (S : Nat → Int32) (H : Heap) (locs : List Loc) (ls : Array Slot), (i ≤ sSz h p) → (LI (vP I p) (sSz h p) j i (X 2) S) → sSz h p - i < fu → xR g (xD h) (mW I c (rw2 X S)) (xFh h) n H → va_S (gA g) s.heap H locs → lv_has ls 5 [(0, .ref (ga g [20])), (1, .int (nI c)), (2, .int (nI j)), (3, .int (nI p)), (4, .int (nI i))] → W P_ l e_ { frames := 11, cells := 0, slots := 0, locals := 247 } s m_ ([.ref (ga g [20]), .int (nI c), .int (nI j)] : List Value).toArray bl_ mt_ cd_ H locs 0 0 (MQ bl_ (xQc g none (xR g (xD h) (mW I c (rw2 X (clE (vP I p) (sSz h p) j (X 2)))) (xFh h) n)) ([.ref (ga g [20]), .int (nI c), .int (nI j)] : List Value).toArray s 0 0 (gA g)) (F0 m_ 10 ls []) := by
    intro fu
    induction fu with
    | zero => intro i S H locs ls hi hL hfu; exact absurd hfu (Nat.not_lt_zero _)
    | succ fu ih10 =>
      intro i S H locs ls hi hL hfu hH hS hl
      refine lv_iload hx hb dX7_closes_10 (lv_at hl 4 rfl) ?_
      refine lv_aload_n hx hb dX7_closes_12 rfl (lv_at hl 0 rfl) ?_
      refine x_get (C := RX7) (T := TX7) (N := 24) (ci := 7) hx hb hts iu7 hown hK hH (id := [20]) (by first | trivial | (simp only [xD]; omega) | (simp [xD]; done) | (simp [xD]; omega)) rfl rfl (by decide) 8 (by decide) (hts _ tw847) (fun _ h9 => h9) rfl (v := .ref (ga g [24, 8])) rfl dX7_closes_13 ?_
      refine lv_iload_n hx hb dX7_closes_16 rfl (lv_at hl 3 rfl) ?_
      refine x_iald hx hb hK hH (id := [24, 8]) (by first | trivial | (simp only [xD]; omega) | (simp [xD]; done) | (simp [xD]; omega)) (L := 3) rfl (r := (I [24, 8])) rfl p rfl (by omega) (by decide) dX7_closes_17 ?_
      rw [show (I [24, 8] p) = (nI (sSz h p)) from hA.1]
      refine lv_icmp_ge (tgt := 77) hx hb dX7_closes_18 (by decide) (fun c_18 => ?_) (fun c_18 => ?_)
      · skip
        have c_18 := (nI_leI (a := (sSz h p)) (b := i) (by omega) (by omega)).mp c_18
        have e : i = sSz h p := by omega
        have hcl := clE_eq hW.pW h8 hj (show LI (vP I p) (sSz h p) j (sSz h p) (X 2) S from e ▸ hL)
        exact x_vret hx hb hr hlocks hS dX7_closes_77 (by rw [← hcl]; exact hH)
      · skip
        have c_18 : ¬ _ := fun z_ => c_18 ((nI_leI (a := (sSz h p)) (b := i) (by omega) (by omega)).mpr z_)
        refine lv_aload_n hx hb dX7_closes_21 rfl (lv_at hl 0 rfl) ?_
        refine x_get (C := RX7) (T := TX7) (N := 24) (ci := 7) hx hb hts iu7 hown hK hH (id := [20]) (by first | trivial | (simp only [xD]; omega) | (simp [xD]; done) | (simp [xD]; omega)) rfl rfl (by decide) 1 (by decide) (hts _ tw840) (fun _ h9 => h9) rfl (v := .ref (ga g [21, 1])) rfl dX7_closes_22 ?_
        refine lv_iload_n hx hb dX7_closes_25 rfl (lv_at hl 3 rfl) ?_
        refine x_aald hx hb hK hH (id := [21, 1]) (by first | trivial | (simp only [xD]; omega) | (simp [xD]; done) | (simp [xD]; omega)) 7 (L := 3) rfl (by decide) p rfl (by omega) (by decide) (v := .ref (ga g [22, 1, p])) (by show rq _ (if _ then _ else _) = _; rw [if_pos (show p < xLn 1 by show _ < 3; omega)]; rfl) dX7_closes_26 ?_
        refine lv_iload hx hb dX7_closes_27 (lv_at hl 4 rfl) ?_
        refine x_iald hx hb hK hH (id := [22, 1, p]) (by first | trivial | (simp only [xD]; omega) | (simp [xD]; done) | (simp [xD]; omega)) (L := 8) rfl (r := (I [22, 1, p])) rfl i rfl (by omega) (by decide) dX7_closes_29 ?_
        rw [show (I [22, 1, p] i) = (I [7, p, i] 1) from (hA.2 i (by omega)).2.1]
        refine lv_iload_n hx hb dX7_closes_30 rfl (lv_at hl 2 rfl) ?_
        refine lv_icmp_ne (tgt := 71) hx hb dX7_closes_31 (by decide) (fun c_31 => ?_) (fun c_31 => ?_)
        · skip
          refine lv_iinc (v := (nI (i + 1))) (lv' := [(4, .int (nI (i + 1))), (0, .ref (ga g [20])), (1, .int (nI c)), (2, .int (nI j)), (3, .int (nI p))]) hx hb dX7_closes_71 hl (k := 4) rfl (by first | rfl | exact nI_1 _ | exact nI_add _ _) (by decide) rfl (fun ls hl => ?_)
          refine lv_goto (tgt := 10) hx hb dX7_closes_74 (by decide) ?_
          exact ih10 (i + 1) S _ _ _ (by omega) (LI_no hW.pW h8 hL (by omega) (fun z => c_31 z.1)) (by omega) hH hS (lv_sub hl [1, 2, 3, 4, 0] rfl)
        · skip
          refine lv_aload_n hx hb dX7_closes_34 rfl (lv_at hl 0 rfl) ?_
          refine x_get (C := RX7) (T := TX7) (N := 24) (ci := 7) hx hb hts iu7 hown hK hH (id := [20]) (by first | trivial | (simp only [xD]; omega) | (simp [xD]; done) | (simp [xD]; omega)) rfl rfl (by decide) 14 (by decide) (hts _ tw853) (fun _ h9 => h9) rfl (v := .ref (ga g [21, 14])) rfl dX7_closes_35 ?_
          refine lv_iload_n hx hb dX7_closes_38 rfl (lv_at hl 1 rfl) ?_
          refine x_aald hx hb hK hH (id := [21, 14]) (by first | trivial | (simp only [xD]; omega) | (simp [xD]; done) | (simp [xD]; omega)) 8 (L := 4) rfl (by decide) c rfl (by omega) (by decide) (v := .ref (ga g [22, 14, c])) (by show rq _ (if _ then _ else _) = _; rw [if_pos (show c < xLn 14 by show _ < 4; omega)]; rfl) dX7_closes_39 ?_
          refine lv_iload hx hb dX7_closes_40 (lv_at hl 4 rfl) ?_
          refine x_cald hx hb hK hH (id := [22, 14, c]) (by first | trivial | (simp only [xD]; omega) | (simp [xD]; done) | (simp [xD]; omega)) (L := 8) rfl (r := ((rw2 X S) 2)) (mW_r2 _ _ _) i rfl (by omega) (by decide) dX7_closes_42 ?_
          rw [show ((rw2 X S) 2 i) = (S i) from rfl]
          refine lv_bipush (v := 105) hx hb dX7_closes_43 (by decide) ?_
          refine lv_icmp_eq (tgt := 62) hx hb dX7_closes_45 (by decide) (fun c_45 => ?_) (fun c_45 => ?_)
          · skip
            refine lv_aload_n hx hb dX7_closes_62 rfl (lv_at hl 0 rfl) ?_
            refine lv_iload_n hx hb dX7_closes_63 rfl (lv_at hl 1 rfl) ?_
            refine lv_iload hx hb dX7_closes_64 (lv_at hl 4 rfl) ?_
            refine lv_bipush (v := 120) hx hb dX7_closes_66 (by decide) ?_
            refine x_V0 hx hb hml hown hE hS hl.1 cyX7_becomes tw1000 (c_X7_becomes_4_120 l g h I n c (rw2 X S) hc p hpp hpo hA hW i (by omega) (by have hp := pW_pA hW.pW h8 (show i < sSz h p by omega) (pA_of (P := vP I p) (by omega) c_31).2; have hq := (pA_of (P := vP I p) (i := i) (by omega) c_31).1; omega)) ⟨Nat.le_of_ble_eq_true rfl, Nat.le_of_ble_eq_true rfl⟩ ⟨Nat.le_of_ble_eq_true rfl, Nat.le_of_ble_eq_true rfl⟩ (x_recv hK hH (id := [20]) (by first | trivial | (simp only [xD]; omega) | (simp [xD]; done) | (simp [xD]; omega)) (ci := 7) rfl (by decide) rfl) hH rfl rfl (Nat.le_of_ble_eq_true rfl) dX7_closes_68 (fun H locs hH hS => ?_)
            rw [sEnd_rw2] at hH
            refine lv_iinc (v := (nI (i + 1))) (lv' := [(4, .int (nI (i + 1))), (0, .ref (ga g [20])), (1, .int (nI c)), (2, .int (nI j)), (3, .int (nI p))]) hx hb dX7_closes_71 hl (k := 4) rfl (by first | rfl | exact nI_1 _ | exact nI_add _ _) (by decide) rfl (fun ls hl => ?_)
            refine lv_goto (tgt := 10) hx hb dX7_closes_74 (by decide) ?_
            exact ih10 (i + 1) ((clE (vP I p) (sSz h p) i (fun q => if q = i then 120 else S q))) _ _ _ (by omega) (LI_yes hW.pW h8 hL (by omega) (by omega) c_31 (Or.inl c_45) (clE_LI _ hW.pW h8 (by omega))) (by omega) hH hS (lv_sub hl [1, 2, 3, 4, 0] rfl)
          · skip
            refine lv_aload_n hx hb dX7_closes_48 rfl (lv_at hl 0 rfl) ?_
            refine x_get (C := RX7) (T := TX7) (N := 24) (ci := 7) hx hb hts iu7 hown hK hH (id := [20]) (by first | trivial | (simp only [xD]; omega) | (simp [xD]; done) | (simp [xD]; omega)) rfl rfl (by decide) 14 (by decide) (hts _ tw853) (fun _ h9 => h9) rfl (v := .ref (ga g [21, 14])) rfl dX7_closes_49 ?_
            refine lv_iload_n hx hb dX7_closes_52 rfl (lv_at hl 1 rfl) ?_
            refine x_aald hx hb hK hH (id := [21, 14]) (by first | trivial | (simp only [xD]; omega) | (simp [xD]; done) | (simp [xD]; omega)) 8 (L := 4) rfl (by decide) c rfl (by omega) (by decide) (v := .ref (ga g [22, 14, c])) (by show rq _ (if _ then _ else _) = _; rw [if_pos (show c < xLn 14 by show _ < 4; omega)]; rfl) dX7_closes_53 ?_
            refine lv_iload hx hb dX7_closes_54 (lv_at hl 4 rfl) ?_
            refine x_cald hx hb hK hH (id := [22, 14, c]) (by first | trivial | (simp only [xD]; omega) | (simp [xD]; done) | (simp [xD]; omega)) (L := 8) rfl (r := ((rw2 X S) 2)) (mW_r2 _ _ _) i rfl (by omega) (by decide) dX7_closes_56 ?_
            rw [show ((rw2 X S) 2 i) = (S i) from rfl]
            refine lv_bipush (v := 97) hx hb dX7_closes_57 (by decide) ?_
            refine lv_icmp_ne (tgt := 71) hx hb dX7_closes_59 (by decide) (fun c_59 => ?_) (fun c_59 => ?_)
            · skip
              refine lv_iinc (v := (nI (i + 1))) (lv' := [(4, .int (nI (i + 1))), (0, .ref (ga g [20])), (1, .int (nI c)), (2, .int (nI j)), (3, .int (nI p))]) hx hb dX7_closes_71 hl (k := 4) rfl (by first | rfl | exact nI_1 _ | exact nI_add _ _) (by decide) rfl (fun ls hl => ?_)
              refine lv_goto (tgt := 10) hx hb dX7_closes_74 (by decide) ?_
              exact ih10 (i + 1) S _ _ _ (by omega) (LI_no hW.pW h8 hL (by omega) (fun z => z.2.elim c_45 c_59)) (by omega) hH hS (lv_sub hl [1, 2, 3, 4, 0] rfl)
            · skip
              refine lv_aload_n hx hb dX7_closes_62 rfl (lv_at hl 0 rfl) ?_
              refine lv_iload_n hx hb dX7_closes_63 rfl (lv_at hl 1 rfl) ?_
              refine lv_iload hx hb dX7_closes_64 (lv_at hl 4 rfl) ?_
              refine lv_bipush (v := 120) hx hb dX7_closes_66 (by decide) ?_
              refine x_V0 hx hb hml hown hE hS hl.1 cyX7_becomes tw1000 (c_X7_becomes_4_120 l g h I n c (rw2 X S) hc p hpp hpo hA hW i (by omega) (by have hp := pW_pA hW.pW h8 (show i < sSz h p by omega) (pA_of (P := vP I p) (by omega) c_31).2; have hq := (pA_of (P := vP I p) (i := i) (by omega) c_31).1; omega)) ⟨Nat.le_of_ble_eq_true rfl, Nat.le_of_ble_eq_true rfl⟩ ⟨Nat.le_of_ble_eq_true rfl, Nat.le_of_ble_eq_true rfl⟩ (x_recv hK hH (id := [20]) (by first | trivial | (simp only [xD]; omega) | (simp [xD]; done) | (simp [xD]; omega)) (ci := 7) rfl (by decide) rfl) hH rfl rfl (Nat.le_of_ble_eq_true rfl) dX7_closes_68 (fun H locs hH hS => ?_)
              rw [sEnd_rw2] at hH
              refine lv_iinc (v := (nI (i + 1))) (lv' := [(4, .int (nI (i + 1))), (0, .ref (ga g [20])), (1, .int (nI c)), (2, .int (nI j)), (3, .int (nI p))]) hx hb dX7_closes_71 hl (k := 4) rfl (by first | rfl | exact nI_1 _ | exact nI_add _ _) (by decide) rfl (fun ls hl => ?_)
              refine lv_goto (tgt := 10) hx hb dX7_closes_74 (by decide) ?_
              exact ih10 (i + 1) ((clE (vP I p) (sSz h p) i (fun q => if q = i then 120 else S q))) _ _ _ (by omega) (LI_yes hW.pW h8 hL (by omega) (by omega) c_31 (Or.inr c_59) (clE_LI _ hW.pW h8 (by omega))) (by omega) hH hS (lv_sub hl [1, 2, 3, 4, 0] rfl)
  exact L10 _ 0 ((X 2)) _ _ _ (Nat.zero_le _) (LI_0 _ _ _ _) (Nat.lt_succ_self _) hH hS (lv_sub hl [2, 3, 4, 1, 0] rfl)

set_option maxHeartbeats 1000000 in
set_option maxRecDepth 100000 in
theorem c_X7_becomes_5_120 (l : Launch) (g : xG) (h : xS) (I : xI) (n c : Nat) (X : xX) (hc : c < 4) (p : Nat) (hpp : p < 3) (hpo : I [24, 11] c = nI p) (hA : mA h I p) (hW : xWp h I p) (k : Nat) (hk : k < sSz h p) (hlv : sSz h p ≤ k + 1 + 5)  : xM l yX7_becomes (xws yX7_becomes cX7_becomes 4 none) 12 271 g [.ref (ga g [20]), .int (nI c), .int (nI k), .int 120] (xR g (xD h) (mW I c X) (xFh h) n) none (xR g (xD h) (mW I c (sEnd (vP I p) (sSz h p) X k 120)) (xFh h) n) 0 0 := by
  refine xM.of (by decide) (Nat.le_of_ble_eq_true rfl) ?_
  intro P_ e_ s m_ bl_ mt_ cd_ ls hx hb hr hown hlocks hml hnm hE hK hts hH hS hl
  have hl : lv_has ls 4 [(0, .ref (ga g [20])), (1, .int (nI c)), (2, .int (nI k)), (3, .int 120)] := hl
  have h8 := hW.1
  refine lv_aload_n hx hb dX7_becomes_0 rfl (lv_at hl 0 rfl) ?_
  refine x_get (C := RX7) (T := TX7) (N := 24) (ci := 7) hx hb hts iu7 hown hK hH (id := [20]) (by first | trivial | (simp only [xD]; omega) | (simp [xD]; done) | (simp [xD]; omega)) rfl rfl (by decide) 14 (by decide) (hts _ tw853) (fun _ h9 => h9) rfl (v := .ref (ga g [21, 14])) rfl dX7_becomes_1 ?_
  refine lv_iload_n hx hb dX7_becomes_4 rfl (lv_at hl 1 rfl) ?_
  refine x_aald hx hb hK hH (id := [21, 14]) (by first | trivial | (simp only [xD]; omega) | (simp [xD]; done) | (simp [xD]; omega)) 8 (L := 4) rfl (by decide) c rfl (by omega) (by decide) (v := .ref (ga g [22, 14, c])) (by show rq _ (if _ then _ else _) = _; rw [if_pos (show c < xLn 14 by show _ < 4; omega)]; rfl) dX7_becomes_5 ?_
  refine lv_iload_n hx hb dX7_becomes_6 rfl (lv_at hl 2 rfl) ?_
  refine lv_iload_n hx hb dX7_becomes_7 rfl (lv_at hl 3 rfl) ?_
  obtain ⟨X1_, hX1_⟩ : ∃ z, z = up2 X 2 k 120 := ⟨_, rfl⟩
  refine x_cast hx hb hK hH hS (id := [22, 14, c]) (by first | trivial | (simp only [xD]; omega) | (simp [xD]; done) | (simp [xD]; omega)) (L := 8) rfl k rfl (by omega) (by decide) (by rfl) ((mW_u2 _ _ _ _ _).trans (congrArg (mW I c) hX1_.symm)) dX7_becomes_8 (fun H locs hH hS => ?_)
  refine lv_aload_n hx hb dX7_becomes_9 rfl (lv_at hl 0 rfl) ?_
  refine x_get (C := RX7) (T := TX7) (N := 24) (ci := 7) hx hb hts iu7 hown hK hH (id := [20]) (by first | trivial | (simp only [xD]; omega) | (simp [xD]; done) | (simp [xD]; omega)) rfl rfl (by decide) 0 (by decide) (hts _ tw839) (fun _ h9 => h9) rfl (v := .ref (ga g [21, 0])) rfl dX7_becomes_10 ?_
  refine lv_aload_n hx hb dX7_becomes_13 rfl (lv_at hl 0 rfl) ?_
  refine x_get (C := RX7) (T := TX7) (N := 24) (ci := 7) hx hb hts iu7 hown hK hH (id := [20]) (by first | trivial | (simp only [xD]; omega) | (simp [xD]; done) | (simp [xD]; omega)) rfl rfl (by decide) 11 (by decide) (hts _ tw850) (fun _ h9 => h9) rfl (v := .ref (ga g [24, 11])) rfl dX7_becomes_14 ?_
  refine lv_iload_n hx hb dX7_becomes_17 rfl (lv_at hl 1 rfl) ?_
  refine x_iald hx hb hK hH (id := [24, 11]) (by first | trivial | (simp only [xD]; omega) | (simp [xD]; done) | (simp [xD]; omega)) (L := 4) rfl (r := (I [24, 11])) rfl c rfl (by omega) (by decide) dX7_becomes_18 ?_
  rw [show (I [24, 11] c) = (nI p) from hpo]
  refine x_aald hx hb hK hH (id := [21, 0]) (by first | trivial | (simp only [xD]; omega) | (simp [xD]; done) | (simp [xD]; omega)) 8 (L := 3) rfl (by decide) p rfl (by omega) (by decide) (v := .ref (ga g [22, 0, p])) (by show rq _ (if _ then _ else _) = _; rw [if_pos (show p < xLn 0 by show _ < 3; omega)]; rfl) dX7_becomes_19 ?_
  refine lv_iload_n hx hb dX7_becomes_20 rfl (lv_at hl 2 rfl) ?_
  refine x_cald hx hb hK hH (id := [22, 0, p]) (by first | trivial | (simp only [xD]; omega) | (simp [xD]; done) | (simp [xD]; omega)) (L := 8) rfl (r := (I [22, 0, p])) rfl k rfl (by omega) (by decide) dX7_becomes_21 ?_
  rw [show (I [22, 0, p] k) = (I [7, p, k] 0) from (hA.2 k (by omega)).1]
  refine lv_bipush (v := 115) hx hb dX7_becomes_22 (by decide) ?_
  refine lv_icmp_ne (tgt := 45) hx hb dX7_becomes_24 (by decide) (fun c_24 => ?_) (fun c_24 => ?_)
  · skip
    exact x_vret hx hb hr hlocks hS dX7_becomes_45 (by rw [sEnd_cl, ← clE_eq hW.pW h8 hk (LI_self (hW.leaf c_24)), ← up2_rw2, ← hX1_]; exact hH)
  · skip
    refine lv_iload_n hx hb dX7_becomes_27 rfl (lv_at hl 3 rfl) ?_
    refine lv_bipush (v := 99) hx hb dX7_becomes_28 (by decide) ?_
    refine lv_icmp_eq (tgt := 39) hx hb dX7_becomes_30 (by decide) (fun q_ => absurd q_ (by decide)) (fun _ => ?_)
    refine lv_iload_n hx hb dX7_becomes_33 rfl (lv_at hl 3 rfl) ?_
    refine lv_bipush (v := 120) hx hb dX7_becomes_34 (by decide) ?_
    refine lv_icmp_ne (tgt := 45) hx hb dX7_becomes_36 (by decide) (fun q_ => absurd (by decide) q_) (fun _ => ?_)
    refine lv_aload_n hx hb dX7_becomes_39 rfl (lv_at hl 0 rfl) ?_
    refine lv_iload_n hx hb dX7_becomes_40 rfl (lv_at hl 1 rfl) ?_
    refine lv_iload_n hx hb dX7_becomes_41 rfl (lv_at hl 2 rfl) ?_
    refine x_V0 hx hb hml hown hE hS hl.1 cyX7_closes tw1004 (c_X7_closes_5 l g h I n c X1_ hc p hpp hpo hA hW k hk hlv) ⟨Nat.le_of_ble_eq_true rfl, Nat.le_of_ble_eq_true rfl⟩ ⟨Nat.le_of_ble_eq_true rfl, Nat.le_of_ble_eq_true rfl⟩ (x_recv hK hH (id := [20]) (by first | trivial | (simp only [xD]; omega) | (simp [xD]; done) | (simp [xD]; omega)) (ci := 7) rfl (by decide) rfl) hH rfl rfl (Nat.le_of_ble_eq_true rfl) dX7_becomes_42 (fun H locs hH hS => ?_)
    exact x_vret hx hb hr hlocks hS dX7_becomes_45 (by rw [hX1_, rw2_up2, up2_row] at hH; exact hH)

set_option maxHeartbeats 1000000 in
set_option maxRecDepth 100000 in
theorem c_X7_closes_6 (l : Launch) (g : xG) (h : xS) (I : xI) (n c : Nat) (X : xX) (hc : c < 4) (p : Nat) (hpp : p < 3) (hpo : I [24, 11] c = nI p) (hA : mA h I p) (hW : xWp h I p) (j : Nat) (hj : j < sSz h p) (hlv : sSz h p ≤ j + 1 + 6)  : xM l yX7_closes (xws yX7_closes cX7_closes 5 none) 13 294 g [.ref (ga g [20]), .int (nI c), .int (nI j)] (xR g (xD h) (mW I c X) (xFh h) n) none (xR g (xD h) (mW I c (rw2 X (clE (vP I p) (sSz h p) j (X 2)))) (xFh h) n) 0 0 := by
  refine xM.of (by decide) (Nat.le_of_ble_eq_true rfl) ?_
  intro P_ e_ s m_ bl_ mt_ cd_ ls hx hb hr hown hlocks hml hnm hE hK hts hH hS hl
  have hl : lv_has ls 5 [(0, .ref (ga g [20])), (1, .int (nI c)), (2, .int (nI j))] := hl
  have h8 := hW.1
  refine lv_aload_n hx hb dX7_closes_0 rfl (lv_at hl 0 rfl) ?_
  refine x_get (C := RX7) (T := TX7) (N := 24) (ci := 7) hx hb hts iu7 hown hK hH (id := [20]) (by first | trivial | (simp only [xD]; omega) | (simp [xD]; done) | (simp [xD]; omega)) rfl rfl (by decide) 11 (by decide) (hts _ tw850) (fun _ h9 => h9) rfl (v := .ref (ga g [24, 11])) rfl dX7_closes_1 ?_
  refine lv_iload_n hx hb dX7_closes_4 rfl (lv_at hl 1 rfl) ?_
  refine x_iald hx hb hK hH (id := [24, 11]) (by first | trivial | (simp only [xD]; omega) | (simp [xD]; done) | (simp [xD]; omega)) (L := 4) rfl (r := (I [24, 11])) rfl c rfl (by omega) (by decide) dX7_closes_5 ?_
  rw [show (I [24, 11] c) = (nI p) from hpo]
  refine lv_istore_n (lv' := [(3, .int (nI p)), (0, .ref (ga g [20])), (1, .int (nI c)), (2, .int (nI j))]) hx hb dX7_closes_6 rfl hl (by decide) rfl (fun ls hl => ?_)
  refine lv_iconst (v := 0) hx hb dX7_closes_7 (by decide) ?_
  refine lv_istore (lv' := [(4, .int 0), (3, .int (nI p)), (0, .ref (ga g [20])), (1, .int (nI c)), (2, .int (nI j))]) hx hb dX7_closes_8 hl (by decide) rfl (fun ls hl => ?_)
  have hH : xR g (xD h) (mW I c (rw2 X (X 2))) (xFh h) n s.heap := by rw [rw2_self]; exact hH
  have L10 : ∀ (fu : Nat) (i : Nat) (S : Nat → Int32) (H : Heap) (locs : List Loc) (ls : Array Slot), (i ≤ sSz h p) → (LI (vP I p) (sSz h p) j i (X 2) S) → sSz h p - i < fu → xR g (xD h) (mW I c (rw2 X S)) (xFh h) n H → va_S (gA g) s.heap H locs → lv_has ls 5 [(0, .ref (ga g [20])), (1, .int (nI c)), (2, .int (nI j)), (3, .int (nI p)), (4, .int (nI i))] → W P_ l e_ { frames := 13, cells := 0, slots := 0, locals := 294 } s m_ ([.ref (ga g [20]), .int (nI c), .int (nI j)] : List Value).toArray bl_ mt_ cd_ H locs 0 0 (MQ bl_ (xQc g none (xR g (xD h) (mW I c (rw2 X (clE (vP I p) (sSz h p) j (X 2)))) (xFh h) n)) ([.ref (ga g [20]), .int (nI c), .int (nI j)] : List Value).toArray s 0 0 (gA g)) (F0 m_ 10 ls []) := by
    intro fu
    induction fu with
    | zero => intro i S H locs ls hi hL hfu; exact absurd hfu (Nat.not_lt_zero _)
    | succ fu ih10 =>
      intro i S H locs ls hi hL hfu hH hS hl
      refine lv_iload hx hb dX7_closes_10 (lv_at hl 4 rfl) ?_
      refine lv_aload_n hx hb dX7_closes_12 rfl (lv_at hl 0 rfl) ?_
      refine x_get (C := RX7) (T := TX7) (N := 24) (ci := 7) hx hb hts iu7 hown hK hH (id := [20]) (by first | trivial | (simp only [xD]; omega) | (simp [xD]; done) | (simp [xD]; omega)) rfl rfl (by decide) 8 (by decide) (hts _ tw847) (fun _ h9 => h9) rfl (v := .ref (ga g [24, 8])) rfl dX7_closes_13 ?_
      refine lv_iload_n hx hb dX7_closes_16 rfl (lv_at hl 3 rfl) ?_
      refine x_iald hx hb hK hH (id := [24, 8]) (by first | trivial | (simp only [xD]; omega) | (simp [xD]; done) | (simp [xD]; omega)) (L := 3) rfl (r := (I [24, 8])) rfl p rfl (by omega) (by decide) dX7_closes_17 ?_
      rw [show (I [24, 8] p) = (nI (sSz h p)) from hA.1]
      refine lv_icmp_ge (tgt := 77) hx hb dX7_closes_18 (by decide) (fun c_18 => ?_) (fun c_18 => ?_)
      · skip
        have c_18 := (nI_leI (a := (sSz h p)) (b := i) (by omega) (by omega)).mp c_18
        have e : i = sSz h p := by omega
        have hcl := clE_eq hW.pW h8 hj (show LI (vP I p) (sSz h p) j (sSz h p) (X 2) S from e ▸ hL)
        exact x_vret hx hb hr hlocks hS dX7_closes_77 (by rw [← hcl]; exact hH)
      · skip
        have c_18 : ¬ _ := fun z_ => c_18 ((nI_leI (a := (sSz h p)) (b := i) (by omega) (by omega)).mpr z_)
        refine lv_aload_n hx hb dX7_closes_21 rfl (lv_at hl 0 rfl) ?_
        refine x_get (C := RX7) (T := TX7) (N := 24) (ci := 7) hx hb hts iu7 hown hK hH (id := [20]) (by first | trivial | (simp only [xD]; omega) | (simp [xD]; done) | (simp [xD]; omega)) rfl rfl (by decide) 1 (by decide) (hts _ tw840) (fun _ h9 => h9) rfl (v := .ref (ga g [21, 1])) rfl dX7_closes_22 ?_
        refine lv_iload_n hx hb dX7_closes_25 rfl (lv_at hl 3 rfl) ?_
        refine x_aald hx hb hK hH (id := [21, 1]) (by first | trivial | (simp only [xD]; omega) | (simp [xD]; done) | (simp [xD]; omega)) 7 (L := 3) rfl (by decide) p rfl (by omega) (by decide) (v := .ref (ga g [22, 1, p])) (by show rq _ (if _ then _ else _) = _; rw [if_pos (show p < xLn 1 by show _ < 3; omega)]; rfl) dX7_closes_26 ?_
        refine lv_iload hx hb dX7_closes_27 (lv_at hl 4 rfl) ?_
        refine x_iald hx hb hK hH (id := [22, 1, p]) (by first | trivial | (simp only [xD]; omega) | (simp [xD]; done) | (simp [xD]; omega)) (L := 8) rfl (r := (I [22, 1, p])) rfl i rfl (by omega) (by decide) dX7_closes_29 ?_
        rw [show (I [22, 1, p] i) = (I [7, p, i] 1) from (hA.2 i (by omega)).2.1]
        refine lv_iload_n hx hb dX7_closes_30 rfl (lv_at hl 2 rfl) ?_
        refine lv_icmp_ne (tgt := 71) hx hb dX7_closes_31 (by decide) (fun c_31 => ?_) (fun c_31 => ?_)
        · skip
          refine lv_iinc (v := (nI (i + 1))) (lv' := [(4, .int (nI (i + 1))), (0, .ref (ga g [20])), (1, .int (nI c)), (2, .int (nI j)), (3, .int (nI p))]) hx hb dX7_closes_71 hl (k := 4) rfl (by first | rfl | exact nI_1 _ | exact nI_add _ _) (by decide) rfl (fun ls hl => ?_)
          refine lv_goto (tgt := 10) hx hb dX7_closes_74 (by decide) ?_
          exact ih10 (i + 1) S _ _ _ (by omega) (LI_no hW.pW h8 hL (by omega) (fun z => c_31 z.1)) (by omega) hH hS (lv_sub hl [1, 2, 3, 4, 0] rfl)
        · skip
          refine lv_aload_n hx hb dX7_closes_34 rfl (lv_at hl 0 rfl) ?_
          refine x_get (C := RX7) (T := TX7) (N := 24) (ci := 7) hx hb hts iu7 hown hK hH (id := [20]) (by first | trivial | (simp only [xD]; omega) | (simp [xD]; done) | (simp [xD]; omega)) rfl rfl (by decide) 14 (by decide) (hts _ tw853) (fun _ h9 => h9) rfl (v := .ref (ga g [21, 14])) rfl dX7_closes_35 ?_
          refine lv_iload_n hx hb dX7_closes_38 rfl (lv_at hl 1 rfl) ?_
          refine x_aald hx hb hK hH (id := [21, 14]) (by first | trivial | (simp only [xD]; omega) | (simp [xD]; done) | (simp [xD]; omega)) 8 (L := 4) rfl (by decide) c rfl (by omega) (by decide) (v := .ref (ga g [22, 14, c])) (by show rq _ (if _ then _ else _) = _; rw [if_pos (show c < xLn 14 by show _ < 4; omega)]; rfl) dX7_closes_39 ?_
          refine lv_iload hx hb dX7_closes_40 (lv_at hl 4 rfl) ?_
          refine x_cald hx hb hK hH (id := [22, 14, c]) (by first | trivial | (simp only [xD]; omega) | (simp [xD]; done) | (simp [xD]; omega)) (L := 8) rfl (r := ((rw2 X S) 2)) (mW_r2 _ _ _) i rfl (by omega) (by decide) dX7_closes_42 ?_
          rw [show ((rw2 X S) 2 i) = (S i) from rfl]
          refine lv_bipush (v := 105) hx hb dX7_closes_43 (by decide) ?_
          refine lv_icmp_eq (tgt := 62) hx hb dX7_closes_45 (by decide) (fun c_45 => ?_) (fun c_45 => ?_)
          · skip
            refine lv_aload_n hx hb dX7_closes_62 rfl (lv_at hl 0 rfl) ?_
            refine lv_iload_n hx hb dX7_closes_63 rfl (lv_at hl 1 rfl) ?_
            refine lv_iload hx hb dX7_closes_64 (lv_at hl 4 rfl) ?_
            refine lv_bipush (v := 120) hx hb dX7_closes_66 (by decide) ?_
            refine x_V0 hx hb hml hown hE hS hl.1 cyX7_becomes tw1000 (c_X7_becomes_5_120 l g h I n c (rw2 X S) hc p hpp hpo hA hW i (by omega) (by have hp := pW_pA hW.pW h8 (show i < sSz h p by omega) (pA_of (P := vP I p) (by omega) c_31).2; have hq := (pA_of (P := vP I p) (i := i) (by omega) c_31).1; omega)) ⟨Nat.le_of_ble_eq_true rfl, Nat.le_of_ble_eq_true rfl⟩ ⟨Nat.le_of_ble_eq_true rfl, Nat.le_of_ble_eq_true rfl⟩ (x_recv hK hH (id := [20]) (by first | trivial | (simp only [xD]; omega) | (simp [xD]; done) | (simp [xD]; omega)) (ci := 7) rfl (by decide) rfl) hH rfl rfl (Nat.le_of_ble_eq_true rfl) dX7_closes_68 (fun H locs hH hS => ?_)
            rw [sEnd_rw2] at hH
            refine lv_iinc (v := (nI (i + 1))) (lv' := [(4, .int (nI (i + 1))), (0, .ref (ga g [20])), (1, .int (nI c)), (2, .int (nI j)), (3, .int (nI p))]) hx hb dX7_closes_71 hl (k := 4) rfl (by first | rfl | exact nI_1 _ | exact nI_add _ _) (by decide) rfl (fun ls hl => ?_)
            refine lv_goto (tgt := 10) hx hb dX7_closes_74 (by decide) ?_
            exact ih10 (i + 1) ((clE (vP I p) (sSz h p) i (fun q => if q = i then 120 else S q))) _ _ _ (by omega) (LI_yes hW.pW h8 hL (by omega) (by omega) c_31 (Or.inl c_45) (clE_LI _ hW.pW h8 (by omega))) (by omega) hH hS (lv_sub hl [1, 2, 3, 4, 0] rfl)
          · skip
            refine lv_aload_n hx hb dX7_closes_48 rfl (lv_at hl 0 rfl) ?_
            refine x_get (C := RX7) (T := TX7) (N := 24) (ci := 7) hx hb hts iu7 hown hK hH (id := [20]) (by first | trivial | (simp only [xD]; omega) | (simp [xD]; done) | (simp [xD]; omega)) rfl rfl (by decide) 14 (by decide) (hts _ tw853) (fun _ h9 => h9) rfl (v := .ref (ga g [21, 14])) rfl dX7_closes_49 ?_
            refine lv_iload_n hx hb dX7_closes_52 rfl (lv_at hl 1 rfl) ?_
            refine x_aald hx hb hK hH (id := [21, 14]) (by first | trivial | (simp only [xD]; omega) | (simp [xD]; done) | (simp [xD]; omega)) 8 (L := 4) rfl (by decide) c rfl (by omega) (by decide) (v := .ref (ga g [22, 14, c])) (by show rq _ (if _ then _ else _) = _; rw [if_pos (show c < xLn 14 by show _ < 4; omega)]; rfl) dX7_closes_53 ?_
            refine lv_iload hx hb dX7_closes_54 (lv_at hl 4 rfl) ?_
            refine x_cald hx hb hK hH (id := [22, 14, c]) (by first | trivial | (simp only [xD]; omega) | (simp [xD]; done) | (simp [xD]; omega)) (L := 8) rfl (r := ((rw2 X S) 2)) (mW_r2 _ _ _) i rfl (by omega) (by decide) dX7_closes_56 ?_
            rw [show ((rw2 X S) 2 i) = (S i) from rfl]
            refine lv_bipush (v := 97) hx hb dX7_closes_57 (by decide) ?_
            refine lv_icmp_ne (tgt := 71) hx hb dX7_closes_59 (by decide) (fun c_59 => ?_) (fun c_59 => ?_)
            · skip
              refine lv_iinc (v := (nI (i + 1))) (lv' := [(4, .int (nI (i + 1))), (0, .ref (ga g [20])), (1, .int (nI c)), (2, .int (nI j)), (3, .int (nI p))]) hx hb dX7_closes_71 hl (k := 4) rfl (by first | rfl | exact nI_1 _ | exact nI_add _ _) (by decide) rfl (fun ls hl => ?_)
              refine lv_goto (tgt := 10) hx hb dX7_closes_74 (by decide) ?_
              exact ih10 (i + 1) S _ _ _ (by omega) (LI_no hW.pW h8 hL (by omega) (fun z => z.2.elim c_45 c_59)) (by omega) hH hS (lv_sub hl [1, 2, 3, 4, 0] rfl)
            · skip
              refine lv_aload_n hx hb dX7_closes_62 rfl (lv_at hl 0 rfl) ?_
              refine lv_iload_n hx hb dX7_closes_63 rfl (lv_at hl 1 rfl) ?_
              refine lv_iload hx hb dX7_closes_64 (lv_at hl 4 rfl) ?_
              refine lv_bipush (v := 120) hx hb dX7_closes_66 (by decide) ?_
              refine x_V0 hx hb hml hown hE hS hl.1 cyX7_becomes tw1000 (c_X7_becomes_5_120 l g h I n c (rw2 X S) hc p hpp hpo hA hW i (by omega) (by have hp := pW_pA hW.pW h8 (show i < sSz h p by omega) (pA_of (P := vP I p) (by omega) c_31).2; have hq := (pA_of (P := vP I p) (i := i) (by omega) c_31).1; omega)) ⟨Nat.le_of_ble_eq_true rfl, Nat.le_of_ble_eq_true rfl⟩ ⟨Nat.le_of_ble_eq_true rfl, Nat.le_of_ble_eq_true rfl⟩ (x_recv hK hH (id := [20]) (by first | trivial | (simp only [xD]; omega) | (simp [xD]; done) | (simp [xD]; omega)) (ci := 7) rfl (by decide) rfl) hH rfl rfl (Nat.le_of_ble_eq_true rfl) dX7_closes_68 (fun H locs hH hS => ?_)
              rw [sEnd_rw2] at hH
              refine lv_iinc (v := (nI (i + 1))) (lv' := [(4, .int (nI (i + 1))), (0, .ref (ga g [20])), (1, .int (nI c)), (2, .int (nI j)), (3, .int (nI p))]) hx hb dX7_closes_71 hl (k := 4) rfl (by first | rfl | exact nI_1 _ | exact nI_add _ _) (by decide) rfl (fun ls hl => ?_)
              refine lv_goto (tgt := 10) hx hb dX7_closes_74 (by decide) ?_
              exact ih10 (i + 1) ((clE (vP I p) (sSz h p) i (fun q => if q = i then 120 else S q))) _ _ _ (by omega) (LI_yes hW.pW h8 hL (by omega) (by omega) c_31 (Or.inr c_59) (clE_LI _ hW.pW h8 (by omega))) (by omega) hH hS (lv_sub hl [1, 2, 3, 4, 0] rfl)
  exact L10 _ 0 ((X 2)) _ _ _ (Nat.zero_le _) (LI_0 _ _ _ _) (Nat.lt_succ_self _) hH hS (lv_sub hl [2, 3, 4, 1, 0] rfl)

set_option maxHeartbeats 1000000 in
set_option maxRecDepth 100000 in
theorem c_X7_becomes_6_120 (l : Launch) (g : xG) (h : xS) (I : xI) (n c : Nat) (X : xX) (hc : c < 4) (p : Nat) (hpp : p < 3) (hpo : I [24, 11] c = nI p) (hA : mA h I p) (hW : xWp h I p) (k : Nat) (hk : k < sSz h p) (hlv : sSz h p ≤ k + 1 + 6)  : xM l yX7_becomes (xws yX7_becomes cX7_becomes 4 none) 14 318 g [.ref (ga g [20]), .int (nI c), .int (nI k), .int 120] (xR g (xD h) (mW I c X) (xFh h) n) none (xR g (xD h) (mW I c (sEnd (vP I p) (sSz h p) X k 120)) (xFh h) n) 0 0 := by
  refine xM.of (by decide) (Nat.le_of_ble_eq_true rfl) ?_
  intro P_ e_ s m_ bl_ mt_ cd_ ls hx hb hr hown hlocks hml hnm hE hK hts hH hS hl
  have hl : lv_has ls 4 [(0, .ref (ga g [20])), (1, .int (nI c)), (2, .int (nI k)), (3, .int 120)] := hl
  have h8 := hW.1
  refine lv_aload_n hx hb dX7_becomes_0 rfl (lv_at hl 0 rfl) ?_
  refine x_get (C := RX7) (T := TX7) (N := 24) (ci := 7) hx hb hts iu7 hown hK hH (id := [20]) (by first | trivial | (simp only [xD]; omega) | (simp [xD]; done) | (simp [xD]; omega)) rfl rfl (by decide) 14 (by decide) (hts _ tw853) (fun _ h9 => h9) rfl (v := .ref (ga g [21, 14])) rfl dX7_becomes_1 ?_
  refine lv_iload_n hx hb dX7_becomes_4 rfl (lv_at hl 1 rfl) ?_
  refine x_aald hx hb hK hH (id := [21, 14]) (by first | trivial | (simp only [xD]; omega) | (simp [xD]; done) | (simp [xD]; omega)) 8 (L := 4) rfl (by decide) c rfl (by omega) (by decide) (v := .ref (ga g [22, 14, c])) (by show rq _ (if _ then _ else _) = _; rw [if_pos (show c < xLn 14 by show _ < 4; omega)]; rfl) dX7_becomes_5 ?_
  refine lv_iload_n hx hb dX7_becomes_6 rfl (lv_at hl 2 rfl) ?_
  refine lv_iload_n hx hb dX7_becomes_7 rfl (lv_at hl 3 rfl) ?_
  obtain ⟨X1_, hX1_⟩ : ∃ z, z = up2 X 2 k 120 := ⟨_, rfl⟩
  refine x_cast hx hb hK hH hS (id := [22, 14, c]) (by first | trivial | (simp only [xD]; omega) | (simp [xD]; done) | (simp [xD]; omega)) (L := 8) rfl k rfl (by omega) (by decide) (by rfl) ((mW_u2 _ _ _ _ _).trans (congrArg (mW I c) hX1_.symm)) dX7_becomes_8 (fun H locs hH hS => ?_)
  refine lv_aload_n hx hb dX7_becomes_9 rfl (lv_at hl 0 rfl) ?_
  refine x_get (C := RX7) (T := TX7) (N := 24) (ci := 7) hx hb hts iu7 hown hK hH (id := [20]) (by first | trivial | (simp only [xD]; omega) | (simp [xD]; done) | (simp [xD]; omega)) rfl rfl (by decide) 0 (by decide) (hts _ tw839) (fun _ h9 => h9) rfl (v := .ref (ga g [21, 0])) rfl dX7_becomes_10 ?_
  refine lv_aload_n hx hb dX7_becomes_13 rfl (lv_at hl 0 rfl) ?_
  refine x_get (C := RX7) (T := TX7) (N := 24) (ci := 7) hx hb hts iu7 hown hK hH (id := [20]) (by first | trivial | (simp only [xD]; omega) | (simp [xD]; done) | (simp [xD]; omega)) rfl rfl (by decide) 11 (by decide) (hts _ tw850) (fun _ h9 => h9) rfl (v := .ref (ga g [24, 11])) rfl dX7_becomes_14 ?_
  refine lv_iload_n hx hb dX7_becomes_17 rfl (lv_at hl 1 rfl) ?_
  refine x_iald hx hb hK hH (id := [24, 11]) (by first | trivial | (simp only [xD]; omega) | (simp [xD]; done) | (simp [xD]; omega)) (L := 4) rfl (r := (I [24, 11])) rfl c rfl (by omega) (by decide) dX7_becomes_18 ?_
  rw [show (I [24, 11] c) = (nI p) from hpo]
  refine x_aald hx hb hK hH (id := [21, 0]) (by first | trivial | (simp only [xD]; omega) | (simp [xD]; done) | (simp [xD]; omega)) 8 (L := 3) rfl (by decide) p rfl (by omega) (by decide) (v := .ref (ga g [22, 0, p])) (by show rq _ (if _ then _ else _) = _; rw [if_pos (show p < xLn 0 by show _ < 3; omega)]; rfl) dX7_becomes_19 ?_
  refine lv_iload_n hx hb dX7_becomes_20 rfl (lv_at hl 2 rfl) ?_
  refine x_cald hx hb hK hH (id := [22, 0, p]) (by first | trivial | (simp only [xD]; omega) | (simp [xD]; done) | (simp [xD]; omega)) (L := 8) rfl (r := (I [22, 0, p])) rfl k rfl (by omega) (by decide) dX7_becomes_21 ?_
  rw [show (I [22, 0, p] k) = (I [7, p, k] 0) from (hA.2 k (by omega)).1]
  refine lv_bipush (v := 115) hx hb dX7_becomes_22 (by decide) ?_
  refine lv_icmp_ne (tgt := 45) hx hb dX7_becomes_24 (by decide) (fun c_24 => ?_) (fun c_24 => ?_)
  · skip
    exact x_vret hx hb hr hlocks hS dX7_becomes_45 (by rw [sEnd_cl, ← clE_eq hW.pW h8 hk (LI_self (hW.leaf c_24)), ← up2_rw2, ← hX1_]; exact hH)
  · skip
    refine lv_iload_n hx hb dX7_becomes_27 rfl (lv_at hl 3 rfl) ?_
    refine lv_bipush (v := 99) hx hb dX7_becomes_28 (by decide) ?_
    refine lv_icmp_eq (tgt := 39) hx hb dX7_becomes_30 (by decide) (fun q_ => absurd q_ (by decide)) (fun _ => ?_)
    refine lv_iload_n hx hb dX7_becomes_33 rfl (lv_at hl 3 rfl) ?_
    refine lv_bipush (v := 120) hx hb dX7_becomes_34 (by decide) ?_
    refine lv_icmp_ne (tgt := 45) hx hb dX7_becomes_36 (by decide) (fun q_ => absurd (by decide) q_) (fun _ => ?_)
    refine lv_aload_n hx hb dX7_becomes_39 rfl (lv_at hl 0 rfl) ?_
    refine lv_iload_n hx hb dX7_becomes_40 rfl (lv_at hl 1 rfl) ?_
    refine lv_iload_n hx hb dX7_becomes_41 rfl (lv_at hl 2 rfl) ?_
    refine x_V0 hx hb hml hown hE hS hl.1 cyX7_closes tw1004 (c_X7_closes_6 l g h I n c X1_ hc p hpp hpo hA hW k hk hlv) ⟨Nat.le_of_ble_eq_true rfl, Nat.le_of_ble_eq_true rfl⟩ ⟨Nat.le_of_ble_eq_true rfl, Nat.le_of_ble_eq_true rfl⟩ (x_recv hK hH (id := [20]) (by first | trivial | (simp only [xD]; omega) | (simp [xD]; done) | (simp [xD]; omega)) (ci := 7) rfl (by decide) rfl) hH rfl rfl (Nat.le_of_ble_eq_true rfl) dX7_becomes_42 (fun H locs hH hS => ?_)
    exact x_vret hx hb hr hlocks hS dX7_becomes_45 (by rw [hX1_, rw2_up2, up2_row] at hH; exact hH)

set_option maxHeartbeats 1000000 in
set_option maxRecDepth 100000 in
theorem c_X7_closes_7 (l : Launch) (g : xG) (h : xS) (I : xI) (n c : Nat) (X : xX) (hc : c < 4) (p : Nat) (hpp : p < 3) (hpo : I [24, 11] c = nI p) (hA : mA h I p) (hW : xWp h I p) (j : Nat) (hj : j < sSz h p) (hlv : sSz h p ≤ j + 1 + 7)  : xM l yX7_closes (xws yX7_closes cX7_closes 5 none) 15 341 g [.ref (ga g [20]), .int (nI c), .int (nI j)] (xR g (xD h) (mW I c X) (xFh h) n) none (xR g (xD h) (mW I c (rw2 X (clE (vP I p) (sSz h p) j (X 2)))) (xFh h) n) 0 0 := by
  refine xM.of (by decide) (Nat.le_of_ble_eq_true rfl) ?_
  intro P_ e_ s m_ bl_ mt_ cd_ ls hx hb hr hown hlocks hml hnm hE hK hts hH hS hl
  have hl : lv_has ls 5 [(0, .ref (ga g [20])), (1, .int (nI c)), (2, .int (nI j))] := hl
  have h8 := hW.1
  refine lv_aload_n hx hb dX7_closes_0 rfl (lv_at hl 0 rfl) ?_
  refine x_get (C := RX7) (T := TX7) (N := 24) (ci := 7) hx hb hts iu7 hown hK hH (id := [20]) (by first | trivial | (simp only [xD]; omega) | (simp [xD]; done) | (simp [xD]; omega)) rfl rfl (by decide) 11 (by decide) (hts _ tw850) (fun _ h9 => h9) rfl (v := .ref (ga g [24, 11])) rfl dX7_closes_1 ?_
  refine lv_iload_n hx hb dX7_closes_4 rfl (lv_at hl 1 rfl) ?_
  refine x_iald hx hb hK hH (id := [24, 11]) (by first | trivial | (simp only [xD]; omega) | (simp [xD]; done) | (simp [xD]; omega)) (L := 4) rfl (r := (I [24, 11])) rfl c rfl (by omega) (by decide) dX7_closes_5 ?_
  rw [show (I [24, 11] c) = (nI p) from hpo]
  refine lv_istore_n (lv' := [(3, .int (nI p)), (0, .ref (ga g [20])), (1, .int (nI c)), (2, .int (nI j))]) hx hb dX7_closes_6 rfl hl (by decide) rfl (fun ls hl => ?_)
  refine lv_iconst (v := 0) hx hb dX7_closes_7 (by decide) ?_
  refine lv_istore (lv' := [(4, .int 0), (3, .int (nI p)), (0, .ref (ga g [20])), (1, .int (nI c)), (2, .int (nI j))]) hx hb dX7_closes_8 hl (by decide) rfl (fun ls hl => ?_)
  have hH : xR g (xD h) (mW I c (rw2 X (X 2))) (xFh h) n s.heap := by rw [rw2_self]; exact hH
  have L10 : ∀ (fu : Nat) (i : Nat) (S : Nat → Int32) (H : Heap) (locs : List Loc) (ls : Array Slot), (i ≤ sSz h p) → (LI (vP I p) (sSz h p) j i (X 2) S) → sSz h p - i < fu → xR g (xD h) (mW I c (rw2 X S)) (xFh h) n H → va_S (gA g) s.heap H locs → lv_has ls 5 [(0, .ref (ga g [20])), (1, .int (nI c)), (2, .int (nI j)), (3, .int (nI p)), (4, .int (nI i))] → W P_ l e_ { frames := 15, cells := 0, slots := 0, locals := 341 } s m_ ([.ref (ga g [20]), .int (nI c), .int (nI j)] : List Value).toArray bl_ mt_ cd_ H locs 0 0 (MQ bl_ (xQc g none (xR g (xD h) (mW I c (rw2 X (clE (vP I p) (sSz h p) j (X 2)))) (xFh h) n)) ([.ref (ga g [20]), .int (nI c), .int (nI j)] : List Value).toArray s 0 0 (gA g)) (F0 m_ 10 ls []) := by
    intro fu
    induction fu with
    | zero => intro i S H locs ls hi hL hfu; exact absurd hfu (Nat.not_lt_zero _)
    | succ fu ih10 =>
      intro i S H locs ls hi hL hfu hH hS hl
      refine lv_iload hx hb dX7_closes_10 (lv_at hl 4 rfl) ?_
      refine lv_aload_n hx hb dX7_closes_12 rfl (lv_at hl 0 rfl) ?_
      refine x_get (C := RX7) (T := TX7) (N := 24) (ci := 7) hx hb hts iu7 hown hK hH (id := [20]) (by first | trivial | (simp only [xD]; omega) | (simp [xD]; done) | (simp [xD]; omega)) rfl rfl (by decide) 8 (by decide) (hts _ tw847) (fun _ h9 => h9) rfl (v := .ref (ga g [24, 8])) rfl dX7_closes_13 ?_
      refine lv_iload_n hx hb dX7_closes_16 rfl (lv_at hl 3 rfl) ?_
      refine x_iald hx hb hK hH (id := [24, 8]) (by first | trivial | (simp only [xD]; omega) | (simp [xD]; done) | (simp [xD]; omega)) (L := 3) rfl (r := (I [24, 8])) rfl p rfl (by omega) (by decide) dX7_closes_17 ?_
      rw [show (I [24, 8] p) = (nI (sSz h p)) from hA.1]
      refine lv_icmp_ge (tgt := 77) hx hb dX7_closes_18 (by decide) (fun c_18 => ?_) (fun c_18 => ?_)
      · skip
        have c_18 := (nI_leI (a := (sSz h p)) (b := i) (by omega) (by omega)).mp c_18
        have e : i = sSz h p := by omega
        have hcl := clE_eq hW.pW h8 hj (show LI (vP I p) (sSz h p) j (sSz h p) (X 2) S from e ▸ hL)
        exact x_vret hx hb hr hlocks hS dX7_closes_77 (by rw [← hcl]; exact hH)
      · skip
        have c_18 : ¬ _ := fun z_ => c_18 ((nI_leI (a := (sSz h p)) (b := i) (by omega) (by omega)).mpr z_)
        refine lv_aload_n hx hb dX7_closes_21 rfl (lv_at hl 0 rfl) ?_
        refine x_get (C := RX7) (T := TX7) (N := 24) (ci := 7) hx hb hts iu7 hown hK hH (id := [20]) (by first | trivial | (simp only [xD]; omega) | (simp [xD]; done) | (simp [xD]; omega)) rfl rfl (by decide) 1 (by decide) (hts _ tw840) (fun _ h9 => h9) rfl (v := .ref (ga g [21, 1])) rfl dX7_closes_22 ?_
        refine lv_iload_n hx hb dX7_closes_25 rfl (lv_at hl 3 rfl) ?_
        refine x_aald hx hb hK hH (id := [21, 1]) (by first | trivial | (simp only [xD]; omega) | (simp [xD]; done) | (simp [xD]; omega)) 7 (L := 3) rfl (by decide) p rfl (by omega) (by decide) (v := .ref (ga g [22, 1, p])) (by show rq _ (if _ then _ else _) = _; rw [if_pos (show p < xLn 1 by show _ < 3; omega)]; rfl) dX7_closes_26 ?_
        refine lv_iload hx hb dX7_closes_27 (lv_at hl 4 rfl) ?_
        refine x_iald hx hb hK hH (id := [22, 1, p]) (by first | trivial | (simp only [xD]; omega) | (simp [xD]; done) | (simp [xD]; omega)) (L := 8) rfl (r := (I [22, 1, p])) rfl i rfl (by omega) (by decide) dX7_closes_29 ?_
        rw [show (I [22, 1, p] i) = (I [7, p, i] 1) from (hA.2 i (by omega)).2.1]
        refine lv_iload_n hx hb dX7_closes_30 rfl (lv_at hl 2 rfl) ?_
        refine lv_icmp_ne (tgt := 71) hx hb dX7_closes_31 (by decide) (fun c_31 => ?_) (fun c_31 => ?_)
        · skip
          refine lv_iinc (v := (nI (i + 1))) (lv' := [(4, .int (nI (i + 1))), (0, .ref (ga g [20])), (1, .int (nI c)), (2, .int (nI j)), (3, .int (nI p))]) hx hb dX7_closes_71 hl (k := 4) rfl (by first | rfl | exact nI_1 _ | exact nI_add _ _) (by decide) rfl (fun ls hl => ?_)
          refine lv_goto (tgt := 10) hx hb dX7_closes_74 (by decide) ?_
          exact ih10 (i + 1) S _ _ _ (by omega) (LI_no hW.pW h8 hL (by omega) (fun z => c_31 z.1)) (by omega) hH hS (lv_sub hl [1, 2, 3, 4, 0] rfl)
        · skip
          refine lv_aload_n hx hb dX7_closes_34 rfl (lv_at hl 0 rfl) ?_
          refine x_get (C := RX7) (T := TX7) (N := 24) (ci := 7) hx hb hts iu7 hown hK hH (id := [20]) (by first | trivial | (simp only [xD]; omega) | (simp [xD]; done) | (simp [xD]; omega)) rfl rfl (by decide) 14 (by decide) (hts _ tw853) (fun _ h9 => h9) rfl (v := .ref (ga g [21, 14])) rfl dX7_closes_35 ?_
          refine lv_iload_n hx hb dX7_closes_38 rfl (lv_at hl 1 rfl) ?_
          refine x_aald hx hb hK hH (id := [21, 14]) (by first | trivial | (simp only [xD]; omega) | (simp [xD]; done) | (simp [xD]; omega)) 8 (L := 4) rfl (by decide) c rfl (by omega) (by decide) (v := .ref (ga g [22, 14, c])) (by show rq _ (if _ then _ else _) = _; rw [if_pos (show c < xLn 14 by show _ < 4; omega)]; rfl) dX7_closes_39 ?_
          refine lv_iload hx hb dX7_closes_40 (lv_at hl 4 rfl) ?_
          refine x_cald hx hb hK hH (id := [22, 14, c]) (by first | trivial | (simp only [xD]; omega) | (simp [xD]; done) | (simp [xD]; omega)) (L := 8) rfl (r := ((rw2 X S) 2)) (mW_r2 _ _ _) i rfl (by omega) (by decide) dX7_closes_42 ?_
          rw [show ((rw2 X S) 2 i) = (S i) from rfl]
          refine lv_bipush (v := 105) hx hb dX7_closes_43 (by decide) ?_
          refine lv_icmp_eq (tgt := 62) hx hb dX7_closes_45 (by decide) (fun c_45 => ?_) (fun c_45 => ?_)
          · skip
            refine lv_aload_n hx hb dX7_closes_62 rfl (lv_at hl 0 rfl) ?_
            refine lv_iload_n hx hb dX7_closes_63 rfl (lv_at hl 1 rfl) ?_
            refine lv_iload hx hb dX7_closes_64 (lv_at hl 4 rfl) ?_
            refine lv_bipush (v := 120) hx hb dX7_closes_66 (by decide) ?_
            refine x_V0 hx hb hml hown hE hS hl.1 cyX7_becomes tw1000 (c_X7_becomes_6_120 l g h I n c (rw2 X S) hc p hpp hpo hA hW i (by omega) (by have hp := pW_pA hW.pW h8 (show i < sSz h p by omega) (pA_of (P := vP I p) (by omega) c_31).2; have hq := (pA_of (P := vP I p) (i := i) (by omega) c_31).1; omega)) ⟨Nat.le_of_ble_eq_true rfl, Nat.le_of_ble_eq_true rfl⟩ ⟨Nat.le_of_ble_eq_true rfl, Nat.le_of_ble_eq_true rfl⟩ (x_recv hK hH (id := [20]) (by first | trivial | (simp only [xD]; omega) | (simp [xD]; done) | (simp [xD]; omega)) (ci := 7) rfl (by decide) rfl) hH rfl rfl (Nat.le_of_ble_eq_true rfl) dX7_closes_68 (fun H locs hH hS => ?_)
            rw [sEnd_rw2] at hH
            refine lv_iinc (v := (nI (i + 1))) (lv' := [(4, .int (nI (i + 1))), (0, .ref (ga g [20])), (1, .int (nI c)), (2, .int (nI j)), (3, .int (nI p))]) hx hb dX7_closes_71 hl (k := 4) rfl (by first | rfl | exact nI_1 _ | exact nI_add _ _) (by decide) rfl (fun ls hl => ?_)
            refine lv_goto (tgt := 10) hx hb dX7_closes_74 (by decide) ?_
            exact ih10 (i + 1) ((clE (vP I p) (sSz h p) i (fun q => if q = i then 120 else S q))) _ _ _ (by omega) (LI_yes hW.pW h8 hL (by omega) (by omega) c_31 (Or.inl c_45) (clE_LI _ hW.pW h8 (by omega))) (by omega) hH hS (lv_sub hl [1, 2, 3, 4, 0] rfl)
          · skip
            refine lv_aload_n hx hb dX7_closes_48 rfl (lv_at hl 0 rfl) ?_
            refine x_get (C := RX7) (T := TX7) (N := 24) (ci := 7) hx hb hts iu7 hown hK hH (id := [20]) (by first | trivial | (simp only [xD]; omega) | (simp [xD]; done) | (simp [xD]; omega)) rfl rfl (by decide) 14 (by decide) (hts _ tw853) (fun _ h9 => h9) rfl (v := .ref (ga g [21, 14])) rfl dX7_closes_49 ?_
            refine lv_iload_n hx hb dX7_closes_52 rfl (lv_at hl 1 rfl) ?_
            refine x_aald hx hb hK hH (id := [21, 14]) (by first | trivial | (simp only [xD]; omega) | (simp [xD]; done) | (simp [xD]; omega)) 8 (L := 4) rfl (by decide) c rfl (by omega) (by decide) (v := .ref (ga g [22, 14, c])) (by show rq _ (if _ then _ else _) = _; rw [if_pos (show c < xLn 14 by show _ < 4; omega)]; rfl) dX7_closes_53 ?_
            refine lv_iload hx hb dX7_closes_54 (lv_at hl 4 rfl) ?_
            refine x_cald hx hb hK hH (id := [22, 14, c]) (by first | trivial | (simp only [xD]; omega) | (simp [xD]; done) | (simp [xD]; omega)) (L := 8) rfl (r := ((rw2 X S) 2)) (mW_r2 _ _ _) i rfl (by omega) (by decide) dX7_closes_56 ?_
            rw [show ((rw2 X S) 2 i) = (S i) from rfl]
            refine lv_bipush (v := 97) hx hb dX7_closes_57 (by decide) ?_
            refine lv_icmp_ne (tgt := 71) hx hb dX7_closes_59 (by decide) (fun c_59 => ?_) (fun c_59 => ?_)
            · skip
              refine lv_iinc (v := (nI (i + 1))) (lv' := [(4, .int (nI (i + 1))), (0, .ref (ga g [20])), (1, .int (nI c)), (2, .int (nI j)), (3, .int (nI p))]) hx hb dX7_closes_71 hl (k := 4) rfl (by first | rfl | exact nI_1 _ | exact nI_add _ _) (by decide) rfl (fun ls hl => ?_)
              refine lv_goto (tgt := 10) hx hb dX7_closes_74 (by decide) ?_
              exact ih10 (i + 1) S _ _ _ (by omega) (LI_no hW.pW h8 hL (by omega) (fun z => z.2.elim c_45 c_59)) (by omega) hH hS (lv_sub hl [1, 2, 3, 4, 0] rfl)
            · skip
              refine lv_aload_n hx hb dX7_closes_62 rfl (lv_at hl 0 rfl) ?_
              refine lv_iload_n hx hb dX7_closes_63 rfl (lv_at hl 1 rfl) ?_
              refine lv_iload hx hb dX7_closes_64 (lv_at hl 4 rfl) ?_
              refine lv_bipush (v := 120) hx hb dX7_closes_66 (by decide) ?_
              refine x_V0 hx hb hml hown hE hS hl.1 cyX7_becomes tw1000 (c_X7_becomes_6_120 l g h I n c (rw2 X S) hc p hpp hpo hA hW i (by omega) (by have hp := pW_pA hW.pW h8 (show i < sSz h p by omega) (pA_of (P := vP I p) (by omega) c_31).2; have hq := (pA_of (P := vP I p) (i := i) (by omega) c_31).1; omega)) ⟨Nat.le_of_ble_eq_true rfl, Nat.le_of_ble_eq_true rfl⟩ ⟨Nat.le_of_ble_eq_true rfl, Nat.le_of_ble_eq_true rfl⟩ (x_recv hK hH (id := [20]) (by first | trivial | (simp only [xD]; omega) | (simp [xD]; done) | (simp [xD]; omega)) (ci := 7) rfl (by decide) rfl) hH rfl rfl (Nat.le_of_ble_eq_true rfl) dX7_closes_68 (fun H locs hH hS => ?_)
              rw [sEnd_rw2] at hH
              refine lv_iinc (v := (nI (i + 1))) (lv' := [(4, .int (nI (i + 1))), (0, .ref (ga g [20])), (1, .int (nI c)), (2, .int (nI j)), (3, .int (nI p))]) hx hb dX7_closes_71 hl (k := 4) rfl (by first | rfl | exact nI_1 _ | exact nI_add _ _) (by decide) rfl (fun ls hl => ?_)
              refine lv_goto (tgt := 10) hx hb dX7_closes_74 (by decide) ?_
              exact ih10 (i + 1) ((clE (vP I p) (sSz h p) i (fun q => if q = i then 120 else S q))) _ _ _ (by omega) (LI_yes hW.pW h8 hL (by omega) (by omega) c_31 (Or.inr c_59) (clE_LI _ hW.pW h8 (by omega))) (by omega) hH hS (lv_sub hl [1, 2, 3, 4, 0] rfl)
  exact L10 _ 0 ((X 2)) _ _ _ (Nat.zero_le _) (LI_0 _ _ _ _) (Nat.lt_succ_self _) hH hS (lv_sub hl [2, 3, 4, 1, 0] rfl)

set_option maxHeartbeats 1000000 in
set_option maxRecDepth 100000 in
theorem c_X7_becomes_7_120 (l : Launch) (g : xG) (h : xS) (I : xI) (n c : Nat) (X : xX) (hc : c < 4) (p : Nat) (hpp : p < 3) (hpo : I [24, 11] c = nI p) (hA : mA h I p) (hW : xWp h I p) (k : Nat) (hk : k < sSz h p) (hlv : sSz h p ≤ k + 1 + 7)  : xM l yX7_becomes (xws yX7_becomes cX7_becomes 4 none) 16 365 g [.ref (ga g [20]), .int (nI c), .int (nI k), .int 120] (xR g (xD h) (mW I c X) (xFh h) n) none (xR g (xD h) (mW I c (sEnd (vP I p) (sSz h p) X k 120)) (xFh h) n) 0 0 := by
  refine xM.of (by decide) (Nat.le_of_ble_eq_true rfl) ?_
  intro P_ e_ s m_ bl_ mt_ cd_ ls hx hb hr hown hlocks hml hnm hE hK hts hH hS hl
  have hl : lv_has ls 4 [(0, .ref (ga g [20])), (1, .int (nI c)), (2, .int (nI k)), (3, .int 120)] := hl
  have h8 := hW.1
  refine lv_aload_n hx hb dX7_becomes_0 rfl (lv_at hl 0 rfl) ?_
  refine x_get (C := RX7) (T := TX7) (N := 24) (ci := 7) hx hb hts iu7 hown hK hH (id := [20]) (by first | trivial | (simp only [xD]; omega) | (simp [xD]; done) | (simp [xD]; omega)) rfl rfl (by decide) 14 (by decide) (hts _ tw853) (fun _ h9 => h9) rfl (v := .ref (ga g [21, 14])) rfl dX7_becomes_1 ?_
  refine lv_iload_n hx hb dX7_becomes_4 rfl (lv_at hl 1 rfl) ?_
  refine x_aald hx hb hK hH (id := [21, 14]) (by first | trivial | (simp only [xD]; omega) | (simp [xD]; done) | (simp [xD]; omega)) 8 (L := 4) rfl (by decide) c rfl (by omega) (by decide) (v := .ref (ga g [22, 14, c])) (by show rq _ (if _ then _ else _) = _; rw [if_pos (show c < xLn 14 by show _ < 4; omega)]; rfl) dX7_becomes_5 ?_
  refine lv_iload_n hx hb dX7_becomes_6 rfl (lv_at hl 2 rfl) ?_
  refine lv_iload_n hx hb dX7_becomes_7 rfl (lv_at hl 3 rfl) ?_
  obtain ⟨X1_, hX1_⟩ : ∃ z, z = up2 X 2 k 120 := ⟨_, rfl⟩
  refine x_cast hx hb hK hH hS (id := [22, 14, c]) (by first | trivial | (simp only [xD]; omega) | (simp [xD]; done) | (simp [xD]; omega)) (L := 8) rfl k rfl (by omega) (by decide) (by rfl) ((mW_u2 _ _ _ _ _).trans (congrArg (mW I c) hX1_.symm)) dX7_becomes_8 (fun H locs hH hS => ?_)
  refine lv_aload_n hx hb dX7_becomes_9 rfl (lv_at hl 0 rfl) ?_
  refine x_get (C := RX7) (T := TX7) (N := 24) (ci := 7) hx hb hts iu7 hown hK hH (id := [20]) (by first | trivial | (simp only [xD]; omega) | (simp [xD]; done) | (simp [xD]; omega)) rfl rfl (by decide) 0 (by decide) (hts _ tw839) (fun _ h9 => h9) rfl (v := .ref (ga g [21, 0])) rfl dX7_becomes_10 ?_
  refine lv_aload_n hx hb dX7_becomes_13 rfl (lv_at hl 0 rfl) ?_
  refine x_get (C := RX7) (T := TX7) (N := 24) (ci := 7) hx hb hts iu7 hown hK hH (id := [20]) (by first | trivial | (simp only [xD]; omega) | (simp [xD]; done) | (simp [xD]; omega)) rfl rfl (by decide) 11 (by decide) (hts _ tw850) (fun _ h9 => h9) rfl (v := .ref (ga g [24, 11])) rfl dX7_becomes_14 ?_
  refine lv_iload_n hx hb dX7_becomes_17 rfl (lv_at hl 1 rfl) ?_
  refine x_iald hx hb hK hH (id := [24, 11]) (by first | trivial | (simp only [xD]; omega) | (simp [xD]; done) | (simp [xD]; omega)) (L := 4) rfl (r := (I [24, 11])) rfl c rfl (by omega) (by decide) dX7_becomes_18 ?_
  rw [show (I [24, 11] c) = (nI p) from hpo]
  refine x_aald hx hb hK hH (id := [21, 0]) (by first | trivial | (simp only [xD]; omega) | (simp [xD]; done) | (simp [xD]; omega)) 8 (L := 3) rfl (by decide) p rfl (by omega) (by decide) (v := .ref (ga g [22, 0, p])) (by show rq _ (if _ then _ else _) = _; rw [if_pos (show p < xLn 0 by show _ < 3; omega)]; rfl) dX7_becomes_19 ?_
  refine lv_iload_n hx hb dX7_becomes_20 rfl (lv_at hl 2 rfl) ?_
  refine x_cald hx hb hK hH (id := [22, 0, p]) (by first | trivial | (simp only [xD]; omega) | (simp [xD]; done) | (simp [xD]; omega)) (L := 8) rfl (r := (I [22, 0, p])) rfl k rfl (by omega) (by decide) dX7_becomes_21 ?_
  rw [show (I [22, 0, p] k) = (I [7, p, k] 0) from (hA.2 k (by omega)).1]
  refine lv_bipush (v := 115) hx hb dX7_becomes_22 (by decide) ?_
  refine lv_icmp_ne (tgt := 45) hx hb dX7_becomes_24 (by decide) (fun c_24 => ?_) (fun c_24 => ?_)
  · skip
    exact x_vret hx hb hr hlocks hS dX7_becomes_45 (by rw [sEnd_cl, ← clE_eq hW.pW h8 hk (LI_self (hW.leaf c_24)), ← up2_rw2, ← hX1_]; exact hH)
  · skip
    refine lv_iload_n hx hb dX7_becomes_27 rfl (lv_at hl 3 rfl) ?_
    refine lv_bipush (v := 99) hx hb dX7_becomes_28 (by decide) ?_
    refine lv_icmp_eq (tgt := 39) hx hb dX7_becomes_30 (by decide) (fun q_ => absurd q_ (by decide)) (fun _ => ?_)
    refine lv_iload_n hx hb dX7_becomes_33 rfl (lv_at hl 3 rfl) ?_
    refine lv_bipush (v := 120) hx hb dX7_becomes_34 (by decide) ?_
    refine lv_icmp_ne (tgt := 45) hx hb dX7_becomes_36 (by decide) (fun q_ => absurd (by decide) q_) (fun _ => ?_)
    refine lv_aload_n hx hb dX7_becomes_39 rfl (lv_at hl 0 rfl) ?_
    refine lv_iload_n hx hb dX7_becomes_40 rfl (lv_at hl 1 rfl) ?_
    refine lv_iload_n hx hb dX7_becomes_41 rfl (lv_at hl 2 rfl) ?_
    refine x_V0 hx hb hml hown hE hS hl.1 cyX7_closes tw1004 (c_X7_closes_7 l g h I n c X1_ hc p hpp hpo hA hW k hk hlv) ⟨Nat.le_of_ble_eq_true rfl, Nat.le_of_ble_eq_true rfl⟩ ⟨Nat.le_of_ble_eq_true rfl, Nat.le_of_ble_eq_true rfl⟩ (x_recv hK hH (id := [20]) (by first | trivial | (simp only [xD]; omega) | (simp [xD]; done) | (simp [xD]; omega)) (ci := 7) rfl (by decide) rfl) hH rfl rfl (Nat.le_of_ble_eq_true rfl) dX7_becomes_42 (fun H locs hH hS => ?_)
    exact x_vret hx hb hr hlocks hS dX7_becomes_45 (by rw [hX1_, rw2_up2, up2_row] at hH; exact hH)

set_option maxHeartbeats 1000000 in
set_option maxRecDepth 100000 in
theorem c_X7_becomes_7_99 (l : Launch) (g : xG) (h : xS) (I : xI) (n c : Nat) (X : xX) (hc : c < 4) (p : Nat) (hpp : p < 3) (hpo : I [24, 11] c = nI p) (hA : mA h I p) (hW : xWp h I p) (k : Nat) (hk : k < sSz h p) (hlv : sSz h p ≤ k + 1 + 7)  : xM l yX7_becomes (xws yX7_becomes cX7_becomes 4 none) 16 365 g [.ref (ga g [20]), .int (nI c), .int (nI k), .int 99] (xR g (xD h) (mW I c X) (xFh h) n) none (xR g (xD h) (mW I c (sEnd (vP I p) (sSz h p) X k 99)) (xFh h) n) 0 0 := by
  refine xM.of (by decide) (Nat.le_of_ble_eq_true rfl) ?_
  intro P_ e_ s m_ bl_ mt_ cd_ ls hx hb hr hown hlocks hml hnm hE hK hts hH hS hl
  have hl : lv_has ls 4 [(0, .ref (ga g [20])), (1, .int (nI c)), (2, .int (nI k)), (3, .int 99)] := hl
  have h8 := hW.1
  refine lv_aload_n hx hb dX7_becomes_0 rfl (lv_at hl 0 rfl) ?_
  refine x_get (C := RX7) (T := TX7) (N := 24) (ci := 7) hx hb hts iu7 hown hK hH (id := [20]) (by first | trivial | (simp only [xD]; omega) | (simp [xD]; done) | (simp [xD]; omega)) rfl rfl (by decide) 14 (by decide) (hts _ tw853) (fun _ h9 => h9) rfl (v := .ref (ga g [21, 14])) rfl dX7_becomes_1 ?_
  refine lv_iload_n hx hb dX7_becomes_4 rfl (lv_at hl 1 rfl) ?_
  refine x_aald hx hb hK hH (id := [21, 14]) (by first | trivial | (simp only [xD]; omega) | (simp [xD]; done) | (simp [xD]; omega)) 8 (L := 4) rfl (by decide) c rfl (by omega) (by decide) (v := .ref (ga g [22, 14, c])) (by show rq _ (if _ then _ else _) = _; rw [if_pos (show c < xLn 14 by show _ < 4; omega)]; rfl) dX7_becomes_5 ?_
  refine lv_iload_n hx hb dX7_becomes_6 rfl (lv_at hl 2 rfl) ?_
  refine lv_iload_n hx hb dX7_becomes_7 rfl (lv_at hl 3 rfl) ?_
  obtain ⟨X1_, hX1_⟩ : ∃ z, z = up2 X 2 k 99 := ⟨_, rfl⟩
  refine x_cast hx hb hK hH hS (id := [22, 14, c]) (by first | trivial | (simp only [xD]; omega) | (simp [xD]; done) | (simp [xD]; omega)) (L := 8) rfl k rfl (by omega) (by decide) (by rfl) ((mW_u2 _ _ _ _ _).trans (congrArg (mW I c) hX1_.symm)) dX7_becomes_8 (fun H locs hH hS => ?_)
  refine lv_aload_n hx hb dX7_becomes_9 rfl (lv_at hl 0 rfl) ?_
  refine x_get (C := RX7) (T := TX7) (N := 24) (ci := 7) hx hb hts iu7 hown hK hH (id := [20]) (by first | trivial | (simp only [xD]; omega) | (simp [xD]; done) | (simp [xD]; omega)) rfl rfl (by decide) 0 (by decide) (hts _ tw839) (fun _ h9 => h9) rfl (v := .ref (ga g [21, 0])) rfl dX7_becomes_10 ?_
  refine lv_aload_n hx hb dX7_becomes_13 rfl (lv_at hl 0 rfl) ?_
  refine x_get (C := RX7) (T := TX7) (N := 24) (ci := 7) hx hb hts iu7 hown hK hH (id := [20]) (by first | trivial | (simp only [xD]; omega) | (simp [xD]; done) | (simp [xD]; omega)) rfl rfl (by decide) 11 (by decide) (hts _ tw850) (fun _ h9 => h9) rfl (v := .ref (ga g [24, 11])) rfl dX7_becomes_14 ?_
  refine lv_iload_n hx hb dX7_becomes_17 rfl (lv_at hl 1 rfl) ?_
  refine x_iald hx hb hK hH (id := [24, 11]) (by first | trivial | (simp only [xD]; omega) | (simp [xD]; done) | (simp [xD]; omega)) (L := 4) rfl (r := (I [24, 11])) rfl c rfl (by omega) (by decide) dX7_becomes_18 ?_
  rw [show (I [24, 11] c) = (nI p) from hpo]
  refine x_aald hx hb hK hH (id := [21, 0]) (by first | trivial | (simp only [xD]; omega) | (simp [xD]; done) | (simp [xD]; omega)) 8 (L := 3) rfl (by decide) p rfl (by omega) (by decide) (v := .ref (ga g [22, 0, p])) (by show rq _ (if _ then _ else _) = _; rw [if_pos (show p < xLn 0 by show _ < 3; omega)]; rfl) dX7_becomes_19 ?_
  refine lv_iload_n hx hb dX7_becomes_20 rfl (lv_at hl 2 rfl) ?_
  refine x_cald hx hb hK hH (id := [22, 0, p]) (by first | trivial | (simp only [xD]; omega) | (simp [xD]; done) | (simp [xD]; omega)) (L := 8) rfl (r := (I [22, 0, p])) rfl k rfl (by omega) (by decide) dX7_becomes_21 ?_
  rw [show (I [22, 0, p] k) = (I [7, p, k] 0) from (hA.2 k (by omega)).1]
  refine lv_bipush (v := 115) hx hb dX7_becomes_22 (by decide) ?_
  refine lv_icmp_ne (tgt := 45) hx hb dX7_becomes_24 (by decide) (fun c_24 => ?_) (fun c_24 => ?_)
  · skip
    exact x_vret hx hb hr hlocks hS dX7_becomes_45 (by rw [sEnd_cl, ← clE_eq hW.pW h8 hk (LI_self (hW.leaf c_24)), ← up2_rw2, ← hX1_]; exact hH)
  · skip
    refine lv_iload_n hx hb dX7_becomes_27 rfl (lv_at hl 3 rfl) ?_
    refine lv_bipush (v := 99) hx hb dX7_becomes_28 (by decide) ?_
    refine lv_icmp_eq (tgt := 39) hx hb dX7_becomes_30 (by decide) (fun _ => ?_) (fun q_ => absurd (by decide) q_)
    refine lv_aload_n hx hb dX7_becomes_39 rfl (lv_at hl 0 rfl) ?_
    refine lv_iload_n hx hb dX7_becomes_40 rfl (lv_at hl 1 rfl) ?_
    refine lv_iload_n hx hb dX7_becomes_41 rfl (lv_at hl 2 rfl) ?_
    refine x_V0 hx hb hml hown hE hS hl.1 cyX7_closes tw1004 (c_X7_closes_7 l g h I n c X1_ hc p hpp hpo hA hW k hk hlv) ⟨Nat.le_of_ble_eq_true rfl, Nat.le_of_ble_eq_true rfl⟩ ⟨Nat.le_of_ble_eq_true rfl, Nat.le_of_ble_eq_true rfl⟩ (x_recv hK hH (id := [20]) (by first | trivial | (simp only [xD]; omega) | (simp [xD]; done) | (simp [xD]; omega)) (ci := 7) rfl (by decide) rfl) hH rfl rfl (Nat.le_of_ble_eq_true rfl) dX7_becomes_42 (fun H locs hH hS => ?_)
    exact x_vret hx hb hr hlocks hS dX7_becomes_45 (by rw [hX1_, rw2_up2, up2_row] at hH; exact hH)

set_option maxHeartbeats 1000000 in
set_option maxRecDepth 100000 in
theorem c_X7_isDone (l : Launch) (g : xG) (h : xS) (I : xI) (n c : Nat) (X : xX) (hc : c < 4) (p : Nat) (hpp : p < 3) (hpo : I [24, 11] c = nI p) (hA : mA h I p) (hW : xWp h I p) (j : Nat) (hj : j < sSz h p)  : xM l yX7_isDone (xws yX7_isDone cX7_isDone 7 (some FieldType.boolean)) 1 12 g [.ref (ga g [20]), .int (nI c), .int (nI j)] (xR g (xD h) (mW I c X) (xFh h) n) (some (.int (b01 (sHas (vP I p) j (sSz h p) && sDon (vP I p) X j (sSz h p))))) (xR g (xD h) (mW I c X) (xFh h) n) 0 0 := by
  refine xM.of (by decide) (Nat.le_of_ble_eq_true rfl) ?_
  intro P_ e_ s m_ bl_ mt_ cd_ ls hx hb hr hown hlocks hml hnm hE hK hts hH hS hl
  have hl : lv_has ls 7 [(0, .ref (ga g [20])), (1, .int (nI c)), (2, .int (nI j))] := hl
  have h8 := hW.1
  refine lv_aload_n hx hb dX7_isDone_0 rfl (lv_at hl 0 rfl) ?_
  refine x_get (C := RX7) (T := TX7) (N := 24) (ci := 7) hx hb hts iu7 hown hK hH (id := [20]) (by first | trivial | (simp only [xD]; omega) | (simp [xD]; done) | (simp [xD]; omega)) rfl rfl (by decide) 11 (by decide) (hts _ tw850) (fun _ h9 => h9) rfl (v := .ref (ga g [24, 11])) rfl dX7_isDone_1 ?_
  refine lv_iload_n hx hb dX7_isDone_4 rfl (lv_at hl 1 rfl) ?_
  refine x_iald hx hb hK hH (id := [24, 11]) (by first | trivial | (simp only [xD]; omega) | (simp [xD]; done) | (simp [xD]; omega)) (L := 4) rfl (r := (I [24, 11])) rfl c rfl (by omega) (by decide) dX7_isDone_5 ?_
  rw [show (I [24, 11] c) = (nI p) from hpo]
  refine lv_istore_n (lv' := [(3, .int (nI p)), (0, .ref (ga g [20])), (1, .int (nI c)), (2, .int (nI j))]) hx hb dX7_isDone_6 rfl hl (by decide) rfl (fun ls hl => ?_)
  refine lv_iconst (v := 0) hx hb dX7_isDone_7 (by decide) ?_
  refine lv_istore (lv' := [(4, .int 0), (3, .int (nI p)), (0, .ref (ga g [20])), (1, .int (nI c)), (2, .int (nI j))]) hx hb dX7_isDone_8 hl (by decide) rfl (fun ls hl => ?_)
  refine lv_iconst (v := 0) hx hb dX7_isDone_10 (by decide) ?_
  refine lv_istore (lv' := [(5, .int 0), (4, .int 0), (3, .int (nI p)), (0, .ref (ga g [20])), (1, .int (nI c)), (2, .int (nI j))]) hx hb dX7_isDone_11 hl (by decide) rfl (fun ls hl => ?_)
  have L13 : ∀ (fu : Nat) (i : Nat) (m : Nat) (H : Heap) (locs : List Loc) (ls : Array Slot), (i ≤ sSz h p) → (m ≤ i) → (0 < m ↔ sHas (vP I p) j i = true) → (sDon (vP I p) X j i = true) → sSz h p - i < fu → xR g (xD h) (mW I c X) (xFh h) n H → va_S (gA g) s.heap H locs → lv_has ls 7 [(0, .ref (ga g [20])), (1, .int (nI c)), (2, .int (nI j)), (3, .int (nI p)), (4, .int (nI m)), (5, .int (nI i))] → W P_ l e_ { frames := 1, cells := 0, slots := 0, locals := 12 } s m_ ([.ref (ga g [20]), .int (nI c), .int (nI j)] : List Value).toArray bl_ mt_ cd_ H locs 0 0 (MQ bl_ (xQc g (some (.int (b01 (sHas (vP I p) j (sSz h p) && sDon (vP I p) X j (sSz h p))))) (xR g (xD h) (mW I c X) (xFh h) n)) ([.ref (ga g [20]), .int (nI c), .int (nI j)] : List Value).toArray s 0 0 (gA g)) (F0 m_ 13 ls []) := by
    intro fu
    induction fu with
    | zero => intro i m H locs ls hi hm hcc hd hfu; exact absurd hfu (Nat.not_lt_zero _)
    | succ fu ih13 =>
      intro i m H locs ls hi hm hcc hd hfu hH hS hl
      refine lv_iload hx hb dX7_isDone_13 (lv_at hl 5 rfl) ?_
      refine lv_aload_n hx hb dX7_isDone_15 rfl (lv_at hl 0 rfl) ?_
      refine x_get (C := RX7) (T := TX7) (N := 24) (ci := 7) hx hb hts iu7 hown hK hH (id := [20]) (by first | trivial | (simp only [xD]; omega) | (simp [xD]; done) | (simp [xD]; omega)) rfl rfl (by decide) 8 (by decide) (hts _ tw847) (fun _ h9 => h9) rfl (v := .ref (ga g [24, 8])) rfl dX7_isDone_16 ?_
      refine lv_iload_n hx hb dX7_isDone_19 rfl (lv_at hl 3 rfl) ?_
      refine x_iald hx hb hK hH (id := [24, 8]) (by first | trivial | (simp only [xD]; omega) | (simp [xD]; done) | (simp [xD]; omega)) (L := 3) rfl (r := (I [24, 8])) rfl p rfl (by omega) (by decide) dX7_isDone_20 ?_
      rw [show (I [24, 8] p) = (nI (sSz h p)) from hA.1]
      refine lv_icmp_ge (tgt := 128) hx hb dX7_isDone_21 (by decide) (fun c_21 => ?_) (fun c_21 => ?_)
      · skip
        have c_21 := (nI_leI (a := (sSz h p)) (b := i) (by omega) (by omega)).mp c_21
        refine lv_iload hx hb dX7_isDone_128 (lv_at hl 4 rfl) ?_
        refine lv_if_le (tgt := 137) hx hb dX7_isDone_130 (by decide) (fun c_130 => ?_) (fun c_130 => ?_)
        · skip
          have c_130 := (nI_leI (a := m) (b := 0) (by omega) (by omega)).mp c_130
          refine lv_iconst (v := 0) hx hb dX7_isDone_137 (by decide) ?_
          have e : sSz h p = i := by omega
          exact x_zret hx hb hr hlocks hS dX7_isDone_138 rfl (b01_f (by rw [e, show sHas (vP I p) j i = false from Bool.eq_false_iff.mpr (fun z => by have := hcc.mpr z; omega)]; rfl)) hH
        · skip
          have c_130 : ¬ _ := fun z_ => c_130 ((nI_leI (a := m) (b := 0) (by omega) (by omega)).mpr z_)
          refine lv_iconst (v := 1) hx hb dX7_isDone_133 (by decide) ?_
          refine lv_goto (tgt := 138) hx hb dX7_isDone_134 (by decide) ?_
          have e : sSz h p = i := by omega
          exact x_zret hx hb hr hlocks hS dX7_isDone_138 rfl (b01_t (by rw [e, hcc.mp (by omega), hd]; rfl)) hH
      · skip
        have c_21 : ¬ _ := fun z_ => c_21 ((nI_leI (a := (sSz h p)) (b := i) (by omega) (by omega)).mpr z_)
        refine lv_aload_n hx hb dX7_isDone_24 rfl (lv_at hl 0 rfl) ?_
        refine x_get (C := RX7) (T := TX7) (N := 24) (ci := 7) hx hb hts iu7 hown hK hH (id := [20]) (by first | trivial | (simp only [xD]; omega) | (simp [xD]; done) | (simp [xD]; omega)) rfl rfl (by decide) 1 (by decide) (hts _ tw840) (fun _ h9 => h9) rfl (v := .ref (ga g [21, 1])) rfl dX7_isDone_25 ?_
        refine lv_iload_n hx hb dX7_isDone_28 rfl (lv_at hl 3 rfl) ?_
        refine x_aald hx hb hK hH (id := [21, 1]) (by first | trivial | (simp only [xD]; omega) | (simp [xD]; done) | (simp [xD]; omega)) 7 (L := 3) rfl (by decide) p rfl (by omega) (by decide) (v := .ref (ga g [22, 1, p])) (by show rq _ (if _ then _ else _) = _; rw [if_pos (show p < xLn 1 by show _ < 3; omega)]; rfl) dX7_isDone_29 ?_
        refine lv_iload hx hb dX7_isDone_30 (lv_at hl 5 rfl) ?_
        refine x_iald hx hb hK hH (id := [22, 1, p]) (by first | trivial | (simp only [xD]; omega) | (simp [xD]; done) | (simp [xD]; omega)) (L := 8) rfl (r := (I [22, 1, p])) rfl i rfl (by omega) (by decide) dX7_isDone_32 ?_
        rw [show (I [22, 1, p] i) = (I [7, p, i] 1) from (hA.2 i (by omega)).2.1]
        refine lv_iload_n hx hb dX7_isDone_33 rfl (lv_at hl 2 rfl) ?_
        refine lv_icmp_ne (tgt := 122) hx hb dX7_isDone_34 (by decide) (fun c_34 => ?_) (fun c_34 => ?_)
        · skip
          refine lv_iinc (v := (nI (i + 1))) (lv' := [(5, .int (nI (i + 1))), (0, .ref (ga g [20])), (1, .int (nI c)), (2, .int (nI j)), (3, .int (nI p)), (4, .int (nI m))]) hx hb dX7_isDone_122 hl (k := 5) rfl (by first | rfl | exact nI_1 _ | exact nI_add _ _) (by decide) rfl (fun ls hl => ?_)
          refine lv_goto (tgt := 13) hx hb dX7_isDone_125 (by decide) ?_
          exact ih13 (i + 1) m _ _ _ (by omega) (by omega) (by show _ ↔ (_ || _) = true; rw [show decide (vP I p i 1 = nI j) = false from decide_eq_false c_34, Bool.or_false]; exact hcc) (by show (_ && (_ || _)) = true; rw [hd, show decide (vP I p i 1 ≠ nI j) = true from decide_eq_true c_34]; rfl) (by omega) hH hS (lv_sub hl [1, 2, 3, 4, 5, 0] rfl)
        · skip
          refine lv_iinc (v := (nI (m + 1))) (lv' := [(4, .int (nI (m + 1))), (0, .ref (ga g [20])), (1, .int (nI c)), (2, .int (nI j)), (3, .int (nI p)), (5, .int (nI i))]) hx hb dX7_isDone_37 hl (k := 4) rfl (by first | rfl | exact nI_1 _ | exact nI_add _ _) (by decide) rfl (fun ls hl => ?_)
          refine lv_aload_n hx hb dX7_isDone_40 rfl (lv_at hl 1 rfl) ?_
          refine x_get (C := RX7) (T := TX7) (N := 24) (ci := 7) hx hb hts iu7 hown hK hH (id := [20]) (by first | trivial | (simp only [xD]; omega) | (simp [xD]; done) | (simp [xD]; omega)) rfl rfl (by decide) 14 (by decide) (hts _ tw853) (fun _ h9 => h9) rfl (v := .ref (ga g [21, 14])) rfl dX7_isDone_41 ?_
          refine lv_iload_n hx hb dX7_isDone_44 rfl (lv_at hl 2 rfl) ?_
          refine x_aald hx hb hK hH (id := [21, 14]) (by first | trivial | (simp only [xD]; omega) | (simp [xD]; done) | (simp [xD]; omega)) 8 (L := 4) rfl (by decide) c rfl (by omega) (by decide) (v := .ref (ga g [22, 14, c])) (by show rq _ (if _ then _ else _) = _; rw [if_pos (show c < xLn 14 by show _ < 4; omega)]; rfl) dX7_isDone_45 ?_
          refine lv_iload hx hb dX7_isDone_46 (lv_at hl 5 rfl) ?_
          refine x_cald hx hb hK hH (id := [22, 14, c]) (by first | trivial | (simp only [xD]; omega) | (simp [xD]; done) | (simp [xD]; omega)) (L := 8) rfl (r := (X 2)) (mW_r2 _ _ _) i rfl (by omega) (by decide) dX7_isDone_48 ?_
          refine lv_bipush (v := 99) hx hb dX7_isDone_49 (by decide) ?_
          refine lv_icmp_eq (tgt := 108) hx hb dX7_isDone_51 (by decide) (fun c_51 => ?_) (fun c_51 => ?_)
          · skip
            refine lv_iconst (v := 1) hx hb dX7_isDone_108 (by decide) ?_
            refine lv_goto (tgt := 113) hx hb dX7_isDone_109 (by decide) ?_
            refine lv_istore (lv' := [(6, .int 1), (4, .int (nI (m + 1))), (0, .ref (ga g [20])), (1, .int (nI c)), (2, .int (nI j)), (3, .int (nI p)), (5, .int (nI i))]) hx hb dX7_isDone_113 hl (by decide) rfl (fun ls hl => ?_)
            refine lv_iload hx hb dX7_isDone_115 (lv_at hl 0 rfl) ?_
            refine lv_if_ne (tgt := 122) hx hb dX7_isDone_117 (by decide) (fun _ => ?_) (fun q_ => absurd q_ (by decide))
            refine lv_iinc (v := (nI (i + 1))) (lv' := [(5, .int (nI (i + 1))), (6, .int 1), (4, .int (nI (m + 1))), (0, .ref (ga g [20])), (1, .int (nI c)), (2, .int (nI j)), (3, .int (nI p))]) hx hb dX7_isDone_122 hl (k := 6) rfl (by first | rfl | exact nI_1 _ | exact nI_add _ _) (by decide) rfl (fun ls hl => ?_)
            refine lv_goto (tgt := 13) hx hb dX7_isDone_125 (by decide) ?_
            exact ih13 (i + 1) (m + 1) _ _ _ (by omega) (by omega) (by show _ ↔ (_ || _) = true; rw [show decide (vP I p i 1 = nI j) = true from decide_eq_true c_34, Bool.or_true]; exact ⟨fun _ => rfl, fun _ => by omega⟩) (by show (_ && (_ || _)) = true; rw [hd, show sOpt (vP I p) X i = true from (by unfold sOpt; rw [decide_eq_true c_51]; rfl), Bool.or_true]; rfl) (by omega) hH hS (lv_sub hl [3, 4, 5, 6, 2, 0] rfl)
          · skip
            refine lv_aload_n hx hb dX7_isDone_54 rfl (lv_at hl 1 rfl) ?_
            refine x_get (C := RX7) (T := TX7) (N := 24) (ci := 7) hx hb hts iu7 hown hK hH (id := [20]) (by first | trivial | (simp only [xD]; omega) | (simp [xD]; done) | (simp [xD]; omega)) rfl rfl (by decide) 14 (by decide) (hts _ tw853) (fun _ h9 => h9) rfl (v := .ref (ga g [21, 14])) rfl dX7_isDone_55 ?_
            refine lv_iload_n hx hb dX7_isDone_58 rfl (lv_at hl 2 rfl) ?_
            refine x_aald hx hb hK hH (id := [21, 14]) (by first | trivial | (simp only [xD]; omega) | (simp [xD]; done) | (simp [xD]; omega)) 8 (L := 4) rfl (by decide) c rfl (by omega) (by decide) (v := .ref (ga g [22, 14, c])) (by show rq _ (if _ then _ else _) = _; rw [if_pos (show c < xLn 14 by show _ < 4; omega)]; rfl) dX7_isDone_59 ?_
            refine lv_iload hx hb dX7_isDone_60 (lv_at hl 5 rfl) ?_
            refine x_cald hx hb hK hH (id := [22, 14, c]) (by first | trivial | (simp only [xD]; omega) | (simp [xD]; done) | (simp [xD]; omega)) (L := 8) rfl (r := (X 2)) (mW_r2 _ _ _) i rfl (by omega) (by decide) dX7_isDone_62 ?_
            refine lv_bipush (v := 120) hx hb dX7_isDone_63 (by decide) ?_
            refine lv_icmp_eq (tgt := 108) hx hb dX7_isDone_65 (by decide) (fun c_65 => ?_) (fun c_65 => ?_)
            · skip
              refine lv_iconst (v := 1) hx hb dX7_isDone_108 (by decide) ?_
              refine lv_goto (tgt := 113) hx hb dX7_isDone_109 (by decide) ?_
              refine lv_istore (lv' := [(6, .int 1), (4, .int (nI (m + 1))), (0, .ref (ga g [20])), (1, .int (nI c)), (2, .int (nI j)), (3, .int (nI p)), (5, .int (nI i))]) hx hb dX7_isDone_113 hl (by decide) rfl (fun ls hl => ?_)
              refine lv_iload hx hb dX7_isDone_115 (lv_at hl 0 rfl) ?_
              refine lv_if_ne (tgt := 122) hx hb dX7_isDone_117 (by decide) (fun _ => ?_) (fun q_ => absurd q_ (by decide))
              refine lv_iinc (v := (nI (i + 1))) (lv' := [(5, .int (nI (i + 1))), (6, .int 1), (4, .int (nI (m + 1))), (0, .ref (ga g [20])), (1, .int (nI c)), (2, .int (nI j)), (3, .int (nI p))]) hx hb dX7_isDone_122 hl (k := 6) rfl (by first | rfl | exact nI_1 _ | exact nI_add _ _) (by decide) rfl (fun ls hl => ?_)
              refine lv_goto (tgt := 13) hx hb dX7_isDone_125 (by decide) ?_
              exact ih13 (i + 1) (m + 1) _ _ _ (by omega) (by omega) (by show _ ↔ (_ || _) = true; rw [show decide (vP I p i 1 = nI j) = true from decide_eq_true c_34, Bool.or_true]; exact ⟨fun _ => rfl, fun _ => by omega⟩) (by show (_ && (_ || _)) = true; rw [hd, show sOpt (vP I p) X i = true from (by unfold sOpt; rw [decide_eq_true c_65, Bool.or_true]; rfl), Bool.or_true]; rfl) (by omega) hH hS (lv_sub hl [3, 4, 5, 6, 2, 0] rfl)
            · skip
              refine lv_aload_n hx hb dX7_isDone_68 rfl (lv_at hl 1 rfl) ?_
              refine x_get (C := RX7) (T := TX7) (N := 24) (ci := 7) hx hb hts iu7 hown hK hH (id := [20]) (by first | trivial | (simp only [xD]; omega) | (simp [xD]; done) | (simp [xD]; omega)) rfl rfl (by decide) 14 (by decide) (hts _ tw853) (fun _ h9 => h9) rfl (v := .ref (ga g [21, 14])) rfl dX7_isDone_69 ?_
              refine lv_iload_n hx hb dX7_isDone_72 rfl (lv_at hl 2 rfl) ?_
              refine x_aald hx hb hK hH (id := [21, 14]) (by first | trivial | (simp only [xD]; omega) | (simp [xD]; done) | (simp [xD]; omega)) 8 (L := 4) rfl (by decide) c rfl (by omega) (by decide) (v := .ref (ga g [22, 14, c])) (by show rq _ (if _ then _ else _) = _; rw [if_pos (show c < xLn 14 by show _ < 4; omega)]; rfl) dX7_isDone_73 ?_
              refine lv_iload hx hb dX7_isDone_74 (lv_at hl 5 rfl) ?_
              refine x_cald hx hb hK hH (id := [22, 14, c]) (by first | trivial | (simp only [xD]; omega) | (simp [xD]; done) | (simp [xD]; omega)) (L := 8) rfl (r := (X 2)) (mW_r2 _ _ _) i rfl (by omega) (by decide) dX7_isDone_76 ?_
              refine lv_bipush (v := 105) hx hb dX7_isDone_77 (by decide) ?_
              refine lv_icmp_ne (tgt := 112) hx hb dX7_isDone_79 (by decide) (fun c_79 => ?_) (fun c_79 => ?_)
              · skip
                refine lv_iconst (v := 0) hx hb dX7_isDone_112 (by decide) ?_
                refine lv_istore (lv' := [(6, .int 0), (4, .int (nI (m + 1))), (0, .ref (ga g [20])), (1, .int (nI c)), (2, .int (nI j)), (3, .int (nI p)), (5, .int (nI i))]) hx hb dX7_isDone_113 hl (by decide) rfl (fun ls hl => ?_)
                refine lv_iload hx hb dX7_isDone_115 (lv_at hl 0 rfl) ?_
                refine lv_if_ne (tgt := 122) hx hb dX7_isDone_117 (by decide) (fun q_ => absurd (by decide) q_) (fun _ => ?_)
                refine lv_iconst (v := 0) hx hb dX7_isDone_120 (by decide) ?_
                exact x_zret hx hb hr hlocks hS dX7_isDone_121 rfl (b01_f (by rw [sDon_mono (i + 1) _ (by omega) (show (_ && (_ || _)) = false from by rw [hd, show decide (vP I p i 1 ≠ nI j) = false from decide_eq_false (fun z => z c_34), show sOpt (vP I p) X i = false from (by unfold sOpt; rw [decide_eq_false c_51, decide_eq_false c_65, decide_eq_false c_79]; simp)]; rfl)]; exact Bool.and_false _)) hH
              · skip
                refine lv_aload_n hx hb dX7_isDone_82 rfl (lv_at hl 1 rfl) ?_
                refine x_get (C := RX7) (T := TX7) (N := 24) (ci := 7) hx hb hts iu7 hown hK hH (id := [20]) (by first | trivial | (simp only [xD]; omega) | (simp [xD]; done) | (simp [xD]; omega)) rfl rfl (by decide) 0 (by decide) (hts _ tw839) (fun _ h9 => h9) rfl (v := .ref (ga g [21, 0])) rfl dX7_isDone_83 ?_
                refine lv_iload_n hx hb dX7_isDone_86 rfl (lv_at hl 4 rfl) ?_
                refine x_aald hx hb hK hH (id := [21, 0]) (by first | trivial | (simp only [xD]; omega) | (simp [xD]; done) | (simp [xD]; omega)) 8 (L := 3) rfl (by decide) p rfl (by omega) (by decide) (v := .ref (ga g [22, 0, p])) (by show rq _ (if _ then _ else _) = _; rw [if_pos (show p < xLn 0 by show _ < 3; omega)]; rfl) dX7_isDone_87 ?_
                refine lv_iload hx hb dX7_isDone_88 (lv_at hl 5 rfl) ?_
                refine x_cald hx hb hK hH (id := [22, 0, p]) (by first | trivial | (simp only [xD]; omega) | (simp [xD]; done) | (simp [xD]; omega)) (L := 8) rfl (r := (I [22, 0, p])) rfl i rfl (by omega) (by decide) dX7_isDone_90 ?_
                rw [show (I [22, 0, p] i) = (I [7, p, i] 0) from (hA.2 i (by omega)).1]
                refine lv_bipush (v := 116) hx hb dX7_isDone_91 (by decide) ?_
                refine lv_icmp_ne (tgt := 112) hx hb dX7_isDone_93 (by decide) (fun c_93 => ?_) (fun c_93 => ?_)
                · skip
                  refine lv_iconst (v := 0) hx hb dX7_isDone_112 (by decide) ?_
                  refine lv_istore (lv' := [(6, .int 0), (4, .int (nI (m + 1))), (0, .ref (ga g [20])), (1, .int (nI c)), (2, .int (nI j)), (3, .int (nI p)), (5, .int (nI i))]) hx hb dX7_isDone_113 hl (by decide) rfl (fun ls hl => ?_)
                  refine lv_iload hx hb dX7_isDone_115 (lv_at hl 0 rfl) ?_
                  refine lv_if_ne (tgt := 122) hx hb dX7_isDone_117 (by decide) (fun q_ => absurd (by decide) q_) (fun _ => ?_)
                  refine lv_iconst (v := 0) hx hb dX7_isDone_120 (by decide) ?_
                  exact x_zret hx hb hr hlocks hS dX7_isDone_121 rfl (b01_f (by rw [sDon_mono (i + 1) _ (by omega) (show (_ && (_ || _)) = false from by rw [hd, show decide (vP I p i 1 ≠ nI j) = false from decide_eq_false (fun z => z c_34), show sOpt (vP I p) X i = false from (by unfold sOpt; rw [decide_eq_false c_51, decide_eq_false c_65, decide_eq_false (show ¬ vP I p i 0 = 116 from c_93)]; simp)]; rfl)]; exact Bool.and_false _)) hH
                · skip
                  refine lv_aload_n hx hb dX7_isDone_96 rfl (lv_at hl 1 rfl) ?_
                  refine x_get (C := RX7) (T := TX7) (N := 24) (ci := 7) hx hb hts iu7 hown hK hH (id := [20]) (by first | trivial | (simp only [xD]; omega) | (simp [xD]; done) | (simp [xD]; omega)) rfl rfl (by decide) 2 (by decide) (hts _ tw841) (fun _ h9 => h9) rfl (v := .ref (ga g [21, 2])) rfl dX7_isDone_97 ?_
                  refine lv_iload_n hx hb dX7_isDone_100 rfl (lv_at hl 4 rfl) ?_
                  refine x_aald hx hb hK hH (id := [21, 2]) (by first | trivial | (simp only [xD]; omega) | (simp [xD]; done) | (simp [xD]; omega)) 9 (L := 3) rfl (by decide) p rfl (by omega) (by decide) (v := .ref (ga g [22, 2, p])) (by show rq _ (if _ then _ else _) = _; rw [if_pos (show p < xLn 2 by show _ < 3; omega)]; rfl) dX7_isDone_101 ?_
                  refine lv_iload hx hb dX7_isDone_102 (lv_at hl 5 rfl) ?_
                  refine x_bald hx hb hK hH (id := [22, 2, p]) (by first | trivial | (simp only [xD]; omega) | (simp [xD]; done) | (simp [xD]; omega)) (L := 8) rfl (r := (I [22, 2, p])) rfl i rfl (by omega) (by decide) dX7_isDone_104 ?_
                  rw [show (I [22, 2, p] i) = (I [7, p, i] 4) from ((hA.2 i (by omega)).2.2.1 c_93)]
                  refine lv_if_ne (tgt := 112) hx hb dX7_isDone_105 (by decide) (fun c_105 => ?_) (fun c_105 => ?_)
                  · skip
                    refine lv_iconst (v := 0) hx hb dX7_isDone_112 (by decide) ?_
                    refine lv_istore (lv' := [(6, .int 0), (4, .int (nI (m + 1))), (0, .ref (ga g [20])), (1, .int (nI c)), (2, .int (nI j)), (3, .int (nI p)), (5, .int (nI i))]) hx hb dX7_isDone_113 hl (by decide) rfl (fun ls hl => ?_)
                    refine lv_iload hx hb dX7_isDone_115 (lv_at hl 0 rfl) ?_
                    refine lv_if_ne (tgt := 122) hx hb dX7_isDone_117 (by decide) (fun q_ => absurd (by decide) q_) (fun _ => ?_)
                    refine lv_iconst (v := 0) hx hb dX7_isDone_120 (by decide) ?_
                    exact x_zret hx hb hr hlocks hS dX7_isDone_121 rfl (b01_f (by rw [sDon_mono (i + 1) _ (by omega) (show (_ && (_ || _)) = false from by rw [hd, show decide (vP I p i 1 ≠ nI j) = false from decide_eq_false (fun z => z c_34), show sOpt (vP I p) X i = false from (by unfold sOpt; rw [decide_eq_false c_51, decide_eq_false c_65, decide_eq_false (show ¬ vP I p i 4 = 0 from c_105)]; simp)]; rfl)]; exact Bool.and_false _)) hH
                  · skip
                    refine lv_iconst (v := 1) hx hb dX7_isDone_108 (by decide) ?_
                    refine lv_goto (tgt := 113) hx hb dX7_isDone_109 (by decide) ?_
                    refine lv_istore (lv' := [(6, .int 1), (4, .int (nI (m + 1))), (0, .ref (ga g [20])), (1, .int (nI c)), (2, .int (nI j)), (3, .int (nI p)), (5, .int (nI i))]) hx hb dX7_isDone_113 hl (by decide) rfl (fun ls hl => ?_)
                    refine lv_iload hx hb dX7_isDone_115 (lv_at hl 0 rfl) ?_
                    refine lv_if_ne (tgt := 122) hx hb dX7_isDone_117 (by decide) (fun _ => ?_) (fun q_ => absurd q_ (by decide))
                    refine lv_iinc (v := (nI (i + 1))) (lv' := [(5, .int (nI (i + 1))), (6, .int 1), (4, .int (nI (m + 1))), (0, .ref (ga g [20])), (1, .int (nI c)), (2, .int (nI j)), (3, .int (nI p))]) hx hb dX7_isDone_122 hl (k := 6) rfl (by first | rfl | exact nI_1 _ | exact nI_add _ _) (by decide) rfl (fun ls hl => ?_)
                    refine lv_goto (tgt := 13) hx hb dX7_isDone_125 (by decide) ?_
                    exact ih13 (i + 1) (m + 1) _ _ _ (by omega) (by omega) (by show _ ↔ (_ || _) = true; rw [show decide (vP I p i 1 = nI j) = true from decide_eq_true c_34, Bool.or_true]; exact ⟨fun _ => rfl, fun _ => by omega⟩) (by show (_ && (_ || _)) = true; rw [hd, show sOpt (vP I p) X i = true from (by unfold sOpt; rw [decide_eq_true c_79, decide_eq_true (show vP I p i 0 = 116 from c_93), decide_eq_true (show vP I p i 4 = 0 from c_105)]; simp), Bool.or_true]; rfl) (by omega) hH hS (lv_sub hl [3, 4, 5, 6, 2, 0] rfl)
  exact L13 _ 0 0 _ _ _ (Nat.zero_le _) (Nat.le_refl _) (by constructor; intro z; exact absurd z (by omega); intro z; cases z) rfl (Nat.lt_succ_self _) hH hS (lv_sub hl [3, 4, 5, 2, 1, 0] rfl)

theorem up2_comm {α : Type} (X : Nat → Nat → α) {f f2 : Nat} (k k2 : Nat) (v v2 : α) (h : f ≠ f2) : up2 (up2 X f k v) f2 k2 v2 = up2 (up2 X f2 k2 v2) f k v := by
  funext a b; unfold up2
  by_cases e : a = f ∧ b = k
  · rw [if_pos e, if_neg (fun z => h (e.1.symm.trans z.1)), if_pos e]
  · rw [if_neg e, if_neg e]
set_option maxHeartbeats 1000000 in
set_option maxRecDepth 100000 in
theorem c_X7_looks (l : Launch) (g : xG) (h : xS) (I : xI) (n c : Nat) (X : xX) (hc : c < 4) (p : Nat) (hpp : p < 3) (hpo : I [24, 11] c = nI p) (hA : mA h I p) (hW : xWp h I p) (j : Nat) (hj : j < sSz h p)  : xM l yX7_looks (xws yX7_looks cX7_looks 6 (some FieldType.boolean)) 17 388 g [.ref (ga g [20]), .int (nI c), .int (nI j)] (xR g (xD h) (mW I c X) (xFh h) n) (some (.int (b01 (sRul (vP I p) (vC I p) (sCn h p) (sSz h p) X j).1))) (xR g (xD h) (mW I c (sRul (vP I p) (vC I p) (sCn h p) (sSz h p) X j).2) (xFh h) n) 0 0 := by
  refine xM.of (by decide) (Nat.le_of_ble_eq_true rfl) ?_
  intro P_ e_ s m_ bl_ mt_ cd_ ls hx hb hr hown hlocks hml hnm hE hK hts hH hS hl
  have hl : lv_has ls 6 [(0, .ref (ga g [20])), (1, .int (nI c)), (2, .int (nI j))] := hl
  have h8 := hW.1
  have hcn0 := ((hW.2.2.2 j hj).2.2 0 (by decide)).2.1
  refine lv_aload_n hx hb dX7_looks_0 rfl (lv_at hl 0 rfl) ?_
  refine x_get (C := RX7) (T := TX7) (N := 24) (ci := 7) hx hb hts iu7 hown hK hH (id := [20]) (by first | trivial | (simp only [xD]; omega) | (simp [xD]; done) | (simp [xD]; omega)) rfl rfl (by decide) 11 (by decide) (hts _ tw850) (fun _ h9 => h9) rfl (v := .ref (ga g [24, 11])) rfl dX7_looks_1 ?_
  refine lv_iload_n hx hb dX7_looks_4 rfl (lv_at hl 1 rfl) ?_
  refine x_iald hx hb hK hH (id := [24, 11]) (by first | trivial | (simp only [xD]; omega) | (simp [xD]; done) | (simp [xD]; omega)) (L := 4) rfl (r := (I [24, 11])) rfl c rfl (by omega) (by decide) dX7_looks_5 ?_
  rw [show (I [24, 11] c) = (nI p) from hpo]
  refine lv_istore_n (lv' := [(3, .int (nI p)), (0, .ref (ga g [20])), (1, .int (nI c)), (2, .int (nI j))]) hx hb dX7_looks_6 rfl hl (by decide) rfl (fun ls hl => ?_)
  refine lv_aload_n hx hb dX7_looks_7 rfl (lv_at hl 1 rfl) ?_
  refine x_get (C := RX7) (T := TX7) (N := 24) (ci := 7) hx hb hts iu7 hown hK hH (id := [20]) (by first | trivial | (simp only [xD]; omega) | (simp [xD]; done) | (simp [xD]; omega)) rfl rfl (by decide) 14 (by decide) (hts _ tw853) (fun _ h9 => h9) rfl (v := .ref (ga g [21, 14])) rfl dX7_looks_8 ?_
  refine lv_iload_n hx hb dX7_looks_11 rfl (lv_at hl 2 rfl) ?_
  refine x_aald hx hb hK hH (id := [21, 14]) (by first | trivial | (simp only [xD]; omega) | (simp [xD]; done) | (simp [xD]; omega)) 8 (L := 4) rfl (by decide) c rfl (by omega) (by decide) (v := .ref (ga g [22, 14, c])) (by show rq _ (if _ then _ else _) = _; rw [if_pos (show c < xLn 14 by show _ < 4; omega)]; rfl) dX7_looks_12 ?_
  refine lv_iload_n hx hb dX7_looks_13 rfl (lv_at hl 3 rfl) ?_
  refine x_cald hx hb hK hH (id := [22, 14, c]) (by first | trivial | (simp only [xD]; omega) | (simp [xD]; done) | (simp [xD]; omega)) (L := 8) rfl (r := (X 2)) (mW_r2 _ _ _) j rfl (by omega) (by decide) dX7_looks_14 ?_
  refine lv_istore (lv' := [(4, .int (X 2 j)), (3, .int (nI p)), (0, .ref (ga g [20])), (1, .int (nI c)), (2, .int (nI j))]) hx hb dX7_looks_15 hl (by decide) rfl (fun ls hl => ?_)
  refine lv_aload_n hx hb dX7_looks_17 rfl (lv_at hl 2 rfl) ?_
  refine x_get (C := RX7) (T := TX7) (N := 24) (ci := 7) hx hb hts iu7 hown hK hH (id := [20]) (by first | trivial | (simp only [xD]; omega) | (simp [xD]; done) | (simp [xD]; omega)) rfl rfl (by decide) 1 (by decide) (hts _ tw840) (fun _ h9 => h9) rfl (v := .ref (ga g [21, 1])) rfl dX7_looks_18 ?_
  refine lv_iload_n hx hb dX7_looks_21 rfl (lv_at hl 1 rfl) ?_
  refine x_aald hx hb hK hH (id := [21, 1]) (by first | trivial | (simp only [xD]; omega) | (simp [xD]; done) | (simp [xD]; omega)) 7 (L := 3) rfl (by decide) p rfl (by omega) (by decide) (v := .ref (ga g [22, 1, p])) (by show rq _ (if _ then _ else _) = _; rw [if_pos (show p < xLn 1 by show _ < 3; omega)]; rfl) dX7_looks_22 ?_
  refine lv_iload_n hx hb dX7_looks_23 rfl (lv_at hl 4 rfl) ?_
  refine x_iald hx hb hK hH (id := [22, 1, p]) (by first | trivial | (simp only [xD]; omega) | (simp [xD]; done) | (simp [xD]; omega)) (L := 8) rfl (r := (I [22, 1, p])) rfl j rfl (by omega) (by decide) dX7_looks_24 ?_
  rw [show (I [22, 1, p] j) = (I [7, p, j] 1) from (hA.2 j (by omega)).2.1]
  refine lv_istore (lv' := [(5, .int (I [7, p, j] 1)), (4, .int (X 2 j)), (3, .int (nI p)), (0, .ref (ga g [20])), (1, .int (nI c)), (2, .int (nI j))]) hx hb dX7_looks_25 hl (by decide) rfl (fun ls hl => ?_)
  have J251 : ∀ (H : Heap) (locs : List Loc), (¬ N1 (vC I p) (sCn h p) X j ∧ ¬ N2 (vP I p) (vC I p) (sCn h p) X j ∧ ¬ N3 (vP I p) (sSz h p) X j ∧ ¬ N4 (vP I p) (vC I p) (sCn h p) X j) → xR g (xD h) (mW I c X) (xFh h) n H → va_S (gA g) s.heap H locs → W P_ l e_ { frames := 17, cells := 0, slots := 0, locals := 388 } s m_ ([.ref (ga g [20]), .int (nI c), .int (nI j)] : List Value).toArray bl_ mt_ cd_ H locs 0 0 (MQ bl_ (xQc g (some (.int (b01 (sRul (vP I p) (vC I p) (sCn h p) (sSz h p) X j).1))) (xR g (xD h) (mW I c (sRul (vP I p) (vC I p) (sCn h p) (sSz h p) X j).2) (xFh h) n)) ([.ref (ga g [20]), .int (nI c), .int (nI j)] : List Value).toArray s 0 0 (gA g)) (F0 m_ 251 ls []) := by
    intro H locs hj251 hH hS
    obtain ⟨n1, n2, n3, n4⟩ := hj251
    refine lv_iconst (v := 0) hx hb dX7_looks_251 (by decide) ?_
    exact x_zret hx hb hr hlocks hS dX7_looks_252 rfl (by rw [sRul_5 n1 n2 n3 n4]; rfl) (by rw [sRul_5 n1 n2 n3 n4]; exact hH)
  have J185 : ∀ (H : Heap) (locs : List Loc), (¬ N1 (vC I p) (sCn h p) X j ∧ ¬ N2 (vP I p) (vC I p) (sCn h p) X j ∧ ¬ N3 (vP I p) (sSz h p) X j) → xR g (xD h) (mW I c X) (xFh h) n H → va_S (gA g) s.heap H locs → W P_ l e_ { frames := 17, cells := 0, slots := 0, locals := 388 } s m_ ([.ref (ga g [20]), .int (nI c), .int (nI j)] : List Value).toArray bl_ mt_ cd_ H locs 0 0 (MQ bl_ (xQc g (some (.int (b01 (sRul (vP I p) (vC I p) (sCn h p) (sSz h p) X j).1))) (xR g (xD h) (mW I c (sRul (vP I p) (vC I p) (sCn h p) (sSz h p) X j).2) (xFh h) n)) ([.ref (ga g [20]), .int (nI c), .int (nI j)] : List Value).toArray s 0 0 (gA g)) (F0 m_ 185 ls []) := by
    intro H locs hj185 hH hS
    obtain ⟨n1, n2, n3⟩ := hj185
    refine lv_iload hx hb dX7_looks_185 (lv_at hl 1 rfl) ?_
    refine lv_bipush (v := 99) hx hb dX7_looks_187 (by decide) ?_
    refine lv_icmp_ne (tgt := 251) hx hb dX7_looks_189 (by decide) (fun c_189 => ?_) (fun c_189 => ?_)
    · skip
      exact J251 _ _ ⟨n1, n2, n3, (fun z_ => c_189 z_.1)⟩ hH hS
    · skip
      refine lv_aload_n hx hb dX7_looks_192 rfl (lv_at hl 3 rfl) ?_
      refine x_get (C := RX7) (T := TX7) (N := 24) (ci := 7) hx hb hts iu7 hown hK hH (id := [20]) (by first | trivial | (simp only [xD]; omega) | (simp [xD]; done) | (simp [xD]; omega)) rfl rfl (by decide) 0 (by decide) (hts _ tw839) (fun _ h9 => h9) rfl (v := .ref (ga g [21, 0])) rfl dX7_looks_193 ?_
      refine lv_iload_n hx hb dX7_looks_196 rfl (lv_at hl 2 rfl) ?_
      refine x_aald hx hb hK hH (id := [21, 0]) (by first | trivial | (simp only [xD]; omega) | (simp [xD]; done) | (simp [xD]; omega)) 8 (L := 3) rfl (by decide) p rfl (by omega) (by decide) (v := .ref (ga g [22, 0, p])) (by show rq _ (if _ then _ else _) = _; rw [if_pos (show p < xLn 0 by show _ < 3; omega)]; rfl) dX7_looks_197 ?_
      refine lv_iload_n hx hb dX7_looks_198 rfl (lv_at hl 5 rfl) ?_
      refine x_cald hx hb hK hH (id := [22, 0, p]) (by first | trivial | (simp only [xD]; omega) | (simp [xD]; done) | (simp [xD]; omega)) (L := 8) rfl (r := (I [22, 0, p])) rfl j rfl (by omega) (by decide) dX7_looks_199 ?_
      rw [show (I [22, 0, p] j) = (I [7, p, j] 0) from (hA.2 j (by omega)).1]
      refine lv_bipush (v := 109) hx hb dX7_looks_200 (by decide) ?_
      refine lv_icmp_ne (tgt := 251) hx hb dX7_looks_202 (by decide) (fun c_202 => ?_) (fun c_202 => ?_)
      · skip
        exact J251 _ _ ⟨n1, n2, n3, (fun z_ => c_202 z_.2.1)⟩ hH hS
      · skip
        refine lv_aload_n hx hb dX7_looks_205 rfl (lv_at hl 3 rfl) ?_
        refine x_get (C := RX7) (T := TX7) (N := 24) (ci := 7) hx hb hts iu7 hown hK hH (id := [20]) (by first | trivial | (simp only [xD]; omega) | (simp [xD]; done) | (simp [xD]; omega)) rfl rfl (by decide) 2 (by decide) (hts _ tw841) (fun _ h9 => h9) rfl (v := .ref (ga g [21, 2])) rfl dX7_looks_206 ?_
        refine lv_iload_n hx hb dX7_looks_209 rfl (lv_at hl 2 rfl) ?_
        refine x_aald hx hb hK hH (id := [21, 2]) (by first | trivial | (simp only [xD]; omega) | (simp [xD]; done) | (simp [xD]; omega)) 9 (L := 3) rfl (by decide) p rfl (by omega) (by decide) (v := .ref (ga g [22, 2, p])) (by show rq _ (if _ then _ else _) = _; rw [if_pos (show p < xLn 2 by show _ < 3; omega)]; rfl) dX7_looks_210 ?_
        refine lv_iload_n hx hb dX7_looks_211 rfl (lv_at hl 5 rfl) ?_
        refine x_bald hx hb hK hH (id := [22, 2, p]) (by first | trivial | (simp only [xD]; omega) | (simp [xD]; done) | (simp [xD]; omega)) (L := 8) rfl (r := (I [22, 2, p])) rfl j rfl (by omega) (by decide) dX7_looks_212 ?_
        rw [show (I [22, 2, p] j) = (I [7, p, j] 6) from ((hA.2 j hj).2.2.2.1 c_202)]
        refine lv_if_eq (tgt := 251) hx hb dX7_looks_213 (by decide) (fun c_213 => ?_) (fun c_213 => ?_)
        · skip
          exact J251 _ _ ⟨n1, n2, n3, (fun z_ => z_.2.2.1 c_213)⟩ hH hS
        · skip
          refine lv_aload_n hx hb dX7_looks_216 rfl (lv_at hl 3 rfl) ?_
          refine x_get (C := RX7) (T := TX7) (N := 24) (ci := 7) hx hb hts iu7 hown hK hH (id := [20]) (by first | trivial | (simp only [xD]; omega) | (simp [xD]; done) | (simp [xD]; omega)) rfl rfl (by decide) 7 (by decide) (hts _ tw846) (fun _ h9 => h9) rfl (v := .ref (ga g [21, 7])) rfl dX7_looks_217 ?_
          refine lv_iload_n hx hb dX7_looks_220 rfl (lv_at hl 2 rfl) ?_
          refine x_aald hx hb hK hH (id := [21, 7]) (by first | trivial | (simp only [xD]; omega) | (simp [xD]; done) | (simp [xD]; omega)) 10 (L := 3) rfl (by decide) p rfl (by omega) (by decide) (v := .ref (ga g [22, 7, p])) (by show rq _ (if _ then _ else _) = _; rw [if_pos (show p < xLn 7 by show _ < 3; omega)]; rfl) dX7_looks_221 ?_
          refine lv_iload_n hx hb dX7_looks_222 rfl (lv_at hl 5 rfl) ?_
          refine x_aald hx hb hK hH (id := [22, 7, p]) (by first | trivial | (simp only [xD]; omega) | (simp [xD]; done) | (simp [xD]; omega)) 7 (L := 8) rfl (by decide) j rfl (by omega) (by decide) (v := .ref (ga g [23, 7, p, j])) (by show rq _ (if _ then _ else _) = _; rw [if_pos (by omega)]; rfl) dX7_looks_223 ?_
          refine lv_iconst (v := 0) hx hb dX7_looks_224 (by decide) ?_
          refine x_iald hx hb hK hH (id := [23, 7, p, j]) (by first | trivial | (simp only [xD]; omega) | (simp [xD]; done) | (simp [xD]; omega)) (L := 2) rfl (r := (I [23, 7, p, j])) rfl 0 (by rfl) (by omega) (by decide) dX7_looks_225 ?_
          rw [show (I [23, 7, p, j] 0) = (nI (sCn h p j 0)) from ((hA.2 j (by omega)).2.2.2.2.2 0 (by decide)).1]
          refine lv_if_le (tgt := 251) hx hb dX7_looks_226 (by decide) (fun c_226 => ?_) (fun c_226 => ?_)
          · skip
            have c_226 := (nI_leI (a := (sCn h p j 0)) (b := 0) (by omega) (by omega)).mp c_226
            exact J251 _ _ ⟨n1, n2, n3, (fun z_ => by have z2 := z_.2.2.2.1; omega)⟩ hH hS
          · skip
            have c_226 : ¬ _ := fun z_ => c_226 ((nI_leI (a := (sCn h p j 0)) (b := 0) (by omega) (by omega)).mpr z_)
            refine lv_aload_n hx hb dX7_looks_229 rfl (lv_at hl 3 rfl) ?_
            refine lv_iload_n hx hb dX7_looks_230 rfl (lv_at hl 4 rfl) ?_
            refine lv_iload_n hx hb dX7_looks_231 rfl (lv_at hl 5 rfl) ?_
            refine lv_iconst (v := 0) hx hb dX7_looks_232 (by decide) ?_
            refine x_V1 hx hb hml hown hE hS hl.1 cyX7_holdsOne tw992 (c_X7_holdsOne_0 l g h I n c X hc p hpp hpo hA hW j hj) ⟨Nat.le_of_ble_eq_true rfl, Nat.le_of_ble_eq_true rfl⟩ ⟨Nat.le_of_ble_eq_true rfl, Nat.le_of_ble_eq_true rfl⟩ (x_recv hK hH (id := [20]) (by first | trivial | (simp only [xD]; omega) | (simp [xD]; done) | (simp [xD]; omega)) (ci := 7) rfl (by decide) rfl) hH rfl rfl (Nat.le_of_ble_eq_true rfl) dX7_looks_233 (fun H locs hH hS => ?_)
            refine lv_if_ne (tgt := 251) hx hb dX7_looks_236 (by decide) (fun c_236 => ?_) (fun c_236 => ?_)
            · skip
              exact J251 _ _ ⟨n1, n2, n3, (fun z_ => z_.2.2.2.2 (b01_ne0 c_236))⟩ hH hS
            · skip
              refine lv_aload_n hx hb dX7_looks_239 rfl (lv_at hl 3 rfl) ?_
              refine x_get (C := RX7) (T := TX7) (N := 24) (ci := 7) hx hb hts iu7 hown hK hH (id := [20]) (by first | trivial | (simp only [xD]; omega) | (simp [xD]; done) | (simp [xD]; omega)) rfl rfl (by decide) 14 (by decide) (hts _ tw853) (fun _ h9 => h9) rfl (v := .ref (ga g [21, 14])) rfl dX7_looks_240 ?_
              refine lv_iload_n hx hb dX7_looks_243 rfl (lv_at hl 4 rfl) ?_
              refine x_aald hx hb hK hH (id := [21, 14]) (by first | trivial | (simp only [xD]; omega) | (simp [xD]; done) | (simp [xD]; omega)) 8 (L := 4) rfl (by decide) c rfl (by omega) (by decide) (v := .ref (ga g [22, 14, c])) (by show rq _ (if _ then _ else _) = _; rw [if_pos (show c < xLn 14 by show _ < 4; omega)]; rfl) dX7_looks_244 ?_
              refine lv_iload_n hx hb dX7_looks_245 rfl (lv_at hl 5 rfl) ?_
              refine lv_bipush (v := 105) hx hb dX7_looks_246 (by decide) ?_
              obtain ⟨X1_, hX1_⟩ : ∃ z, z = up2 X 2 j 105 := ⟨_, rfl⟩
              refine x_cast hx hb hK hH hS (id := [22, 14, c]) (by first | trivial | (simp only [xD]; omega) | (simp [xD]; done) | (simp [xD]; omega)) (L := 8) rfl j rfl (by omega) (by decide) (by rfl) ((mW_u2 _ _ _ _ _).trans (congrArg (mW I c) hX1_.symm)) dX7_looks_248 (fun H locs hH hS => ?_)
              refine lv_iconst (v := 1) hx hb dX7_looks_249 (by decide) ?_
              exact x_zret hx hb hr hlocks hS dX7_looks_250 rfl (by rw [sRul_4 n1 n2 n3 ⟨c_189, c_202, c_213, (by omega), (fun z_ => by have z2 := (b01_eq0 _).mp c_236; rw [z_] at z2; cases z2)⟩]; rfl) (by rw [hX1_] at hH; rw [sRul_4 n1 n2 n3 ⟨c_189, c_202, c_213, (by omega), (fun z_ => by have z2 := (b01_eq0 _).mp c_236; rw [z_] at z2; cases z2)⟩]; exact hH)
  have J146 : ∀ (H : Heap) (locs : List Loc), (¬ N1 (vC I p) (sCn h p) X j ∧ ¬ N2 (vP I p) (vC I p) (sCn h p) X j) → xR g (xD h) (mW I c X) (xFh h) n H → va_S (gA g) s.heap H locs → W P_ l e_ { frames := 17, cells := 0, slots := 0, locals := 388 } s m_ ([.ref (ga g [20]), .int (nI c), .int (nI j)] : List Value).toArray bl_ mt_ cd_ H locs 0 0 (MQ bl_ (xQc g (some (.int (b01 (sRul (vP I p) (vC I p) (sCn h p) (sSz h p) X j).1))) (xR g (xD h) (mW I c (sRul (vP I p) (vC I p) (sCn h p) (sSz h p) X j).2) (xFh h) n)) ([.ref (ga g [20]), .int (nI c), .int (nI j)] : List Value).toArray s 0 0 (gA g)) (F0 m_ 146 ls []) := by
    intro H locs hj146 hH hS
    obtain ⟨n1, n2⟩ := hj146
    refine lv_iload hx hb dX7_looks_146 (lv_at hl 1 rfl) ?_
    refine lv_bipush (v := 97) hx hb dX7_looks_148 (by decide) ?_
    refine lv_icmp_ne (tgt := 185) hx hb dX7_looks_150 (by decide) (fun c_150 => ?_) (fun c_150 => ?_)
    · skip
      exact J185 _ _ ⟨n1, n2, (fun z_ => c_150 z_.1)⟩ hH hS
    · skip
      refine lv_aload_n hx hb dX7_looks_153 rfl (lv_at hl 3 rfl) ?_
      refine x_get (C := RX7) (T := TX7) (N := 24) (ci := 7) hx hb hts iu7 hown hK hH (id := [20]) (by first | trivial | (simp only [xD]; omega) | (simp [xD]; done) | (simp [xD]; omega)) rfl rfl (by decide) 0 (by decide) (hts _ tw839) (fun _ h9 => h9) rfl (v := .ref (ga g [21, 0])) rfl dX7_looks_154 ?_
      refine lv_iload_n hx hb dX7_looks_157 rfl (lv_at hl 2 rfl) ?_
      refine x_aald hx hb hK hH (id := [21, 0]) (by first | trivial | (simp only [xD]; omega) | (simp [xD]; done) | (simp [xD]; omega)) 8 (L := 3) rfl (by decide) p rfl (by omega) (by decide) (v := .ref (ga g [22, 0, p])) (by show rq _ (if _ then _ else _) = _; rw [if_pos (show p < xLn 0 by show _ < 3; omega)]; rfl) dX7_looks_158 ?_
      refine lv_iload_n hx hb dX7_looks_159 rfl (lv_at hl 5 rfl) ?_
      refine x_cald hx hb hK hH (id := [22, 0, p]) (by first | trivial | (simp only [xD]; omega) | (simp [xD]; done) | (simp [xD]; omega)) (L := 8) rfl (r := (I [22, 0, p])) rfl j rfl (by omega) (by decide) dX7_looks_160 ?_
      rw [show (I [22, 0, p] j) = (I [7, p, j] 0) from (hA.2 j (by omega)).1]
      refine lv_bipush (v := 115) hx hb dX7_looks_161 (by decide) ?_
      refine lv_icmp_ne (tgt := 185) hx hb dX7_looks_163 (by decide) (fun c_163 => ?_) (fun c_163 => ?_)
      · skip
        exact J185 _ _ ⟨n1, n2, (fun z_ => c_163 z_.2.1)⟩ hH hS
      · skip
        refine lv_aload_n hx hb dX7_looks_166 rfl (lv_at hl 3 rfl) ?_
        refine lv_iload_n hx hb dX7_looks_167 rfl (lv_at hl 4 rfl) ?_
        refine lv_iload_n hx hb dX7_looks_168 rfl (lv_at hl 5 rfl) ?_
        refine x_V1 hx hb hml hown hE hS hl.1 cyX7_isDone tw1008 (c_X7_isDone l g h I n c X hc p hpp hpo hA hW j hj) ⟨Nat.le_of_ble_eq_true rfl, Nat.le_of_ble_eq_true rfl⟩ ⟨Nat.le_of_ble_eq_true rfl, Nat.le_of_ble_eq_true rfl⟩ (x_recv hK hH (id := [20]) (by first | trivial | (simp only [xD]; omega) | (simp [xD]; done) | (simp [xD]; omega)) (ci := 7) rfl (by decide) rfl) hH rfl rfl (Nat.le_of_ble_eq_true rfl) dX7_looks_169 (fun H locs hH hS => ?_)
        refine lv_if_eq (tgt := 185) hx hb dX7_looks_172 (by decide) (fun c_172 => ?_) (fun c_172 => ?_)
        · skip
          exact J185 _ _ ⟨n1, n2, (fun z_ => by have z2 := (b01_eq0 _).mp c_172; rw [z_.2.2.1, z_.2.2.2] at z2; cases z2)⟩ hH hS
        · skip
          refine lv_aload_n hx hb dX7_looks_175 rfl (lv_at hl 3 rfl) ?_
          refine lv_iload_n hx hb dX7_looks_176 rfl (lv_at hl 4 rfl) ?_
          refine lv_iload_n hx hb dX7_looks_177 rfl (lv_at hl 5 rfl) ?_
          refine lv_bipush (v := 99) hx hb dX7_looks_178 (by decide) ?_
          refine x_V0 hx hb hml hown hE hS hl.1 cyX7_becomes tw1000 (c_X7_becomes_7_99 l g h I n c X hc p hpp hpo hA hW j hj (by omega)) ⟨Nat.le_of_ble_eq_true rfl, Nat.le_of_ble_eq_true rfl⟩ ⟨Nat.le_of_ble_eq_true rfl, Nat.le_of_ble_eq_true rfl⟩ (x_recv hK hH (id := [20]) (by first | trivial | (simp only [xD]; omega) | (simp [xD]; done) | (simp [xD]; omega)) (ci := 7) rfl (by decide) rfl) hH rfl rfl (Nat.le_of_ble_eq_true rfl) dX7_looks_180 (fun H locs hH hS => ?_)
          refine lv_iconst (v := 1) hx hb dX7_looks_183 (by decide) ?_
          exact x_zret hx hb hr hlocks hS dX7_looks_184 rfl (by rw [sRul_3 n1 n2 (let z_ := b01_ne0 c_172; ⟨c_150, c_163, (Bool.and_eq_true _ _ ▸ z_ : _ ∧ _).1, (Bool.and_eq_true _ _ ▸ z_ : _ ∧ _).2⟩)]; rfl) (by rw [sRul_3 n1 n2 (let z_ := b01_ne0 c_172; ⟨c_150, c_163, (Bool.and_eq_true _ _ ▸ z_ : _ ∧ _).1, (Bool.and_eq_true _ _ ▸ z_ : _ ∧ _).2⟩)]; exact hH)
  have J54 : ∀ (H : Heap) (locs : List Loc), (¬ N1 (vC I p) (sCn h p) X j) → xR g (xD h) (mW I c X) (xFh h) n H → va_S (gA g) s.heap H locs → W P_ l e_ { frames := 17, cells := 0, slots := 0, locals := 388 } s m_ ([.ref (ga g [20]), .int (nI c), .int (nI j)] : List Value).toArray bl_ mt_ cd_ H locs 0 0 (MQ bl_ (xQc g (some (.int (b01 (sRul (vP I p) (vC I p) (sCn h p) (sSz h p) X j).1))) (xR g (xD h) (mW I c (sRul (vP I p) (vC I p) (sCn h p) (sSz h p) X j).2) (xFh h) n)) ([.ref (ga g [20]), .int (nI c), .int (nI j)] : List Value).toArray s 0 0 (gA g)) (F0 m_ 54 ls []) := by
    intro H locs hj54 hH hS
    have n1 := hj54
    refine lv_iload hx hb dX7_looks_54 (lv_at hl 1 rfl) ?_
    refine lv_bipush (v := 105) hx hb dX7_looks_56 (by decide) ?_
    refine lv_icmp_ne (tgt := 146) hx hb dX7_looks_58 (by decide) (fun c_58 => ?_) (fun c_58 => ?_)
    · skip
      exact J146 _ _ ⟨n1, (fun z_ => c_58 z_.1)⟩ hH hS
    · skip
      refine lv_aload_n hx hb dX7_looks_61 rfl (lv_at hl 3 rfl) ?_
      refine x_get (C := RX7) (T := TX7) (N := 24) (ci := 7) hx hb hts iu7 hown hK hH (id := [20]) (by first | trivial | (simp only [xD]; omega) | (simp [xD]; done) | (simp [xD]; omega)) rfl rfl (by decide) 7 (by decide) (hts _ tw846) (fun _ h9 => h9) rfl (v := .ref (ga g [21, 7])) rfl dX7_looks_62 ?_
      refine lv_iload_n hx hb dX7_looks_65 rfl (lv_at hl 2 rfl) ?_
      refine x_aald hx hb hK hH (id := [21, 7]) (by first | trivial | (simp only [xD]; omega) | (simp [xD]; done) | (simp [xD]; omega)) 10 (L := 3) rfl (by decide) p rfl (by omega) (by decide) (v := .ref (ga g [22, 7, p])) (by show rq _ (if _ then _ else _) = _; rw [if_pos (show p < xLn 7 by show _ < 3; omega)]; rfl) dX7_looks_66 ?_
      refine lv_iload_n hx hb dX7_looks_67 rfl (lv_at hl 5 rfl) ?_
      refine x_aald hx hb hK hH (id := [22, 7, p]) (by first | trivial | (simp only [xD]; omega) | (simp [xD]; done) | (simp [xD]; omega)) 7 (L := 8) rfl (by decide) j rfl (by omega) (by decide) (v := .ref (ga g [23, 7, p, j])) (by show rq _ (if _ then _ else _) = _; rw [if_pos (by omega)]; rfl) dX7_looks_68 ?_
      refine lv_iconst (v := 0) hx hb dX7_looks_69 (by decide) ?_
      refine x_iald hx hb hK hH (id := [23, 7, p, j]) (by first | trivial | (simp only [xD]; omega) | (simp [xD]; done) | (simp [xD]; omega)) (L := 2) rfl (r := (I [23, 7, p, j])) rfl 0 (by rfl) (by omega) (by decide) dX7_looks_70 ?_
      rw [show (I [23, 7, p, j] 0) = (nI (sCn h p j 0)) from ((hA.2 j (by omega)).2.2.2.2.2 0 (by decide)).1]
      refine lv_if_eq (tgt := 84) hx hb dX7_looks_71 (by decide) (fun c_71 => ?_) (fun c_71 => ?_)
      · skip
        have c_71 := (nI_eq (a := (sCn h p j 0)) (b := 0) (by omega) (by omega)).mp c_71
        refine lv_iload hx hb dX7_looks_84 (lv_at hl 0 rfl) ?_
        refine lv_iconst (v := (-1)) hx hb dX7_looks_86 (by decide) ?_
        refine lv_icmp_eq (tgt := 104) hx hb dX7_looks_87 (by decide) (fun c_87 => ?_) (fun c_87 => ?_)
        · skip
          refine lv_aload_n hx hb dX7_looks_104 rfl (lv_at hl 3 rfl) ?_
          refine x_get (C := RX7) (T := TX7) (N := 24) (ci := 7) hx hb hts iu7 hown hK hH (id := [20]) (by first | trivial | (simp only [xD]; omega) | (simp [xD]; done) | (simp [xD]; omega)) rfl rfl (by decide) 16 (by decide) (hts _ tw855) (fun _ h9 => h9) rfl (v := .ref (ga g [21, 16])) rfl dX7_looks_105 ?_
          refine lv_iload_n hx hb dX7_looks_108 rfl (lv_at hl 4 rfl) ?_
          refine x_aald hx hb hK hH (id := [21, 16]) (by first | trivial | (simp only [xD]; omega) | (simp [xD]; done) | (simp [xD]; omega)) 7 (L := 4) rfl (by decide) c rfl (by omega) (by decide) (v := .ref (ga g [22, 16, c])) (by show rq _ (if _ then _ else _) = _; rw [if_pos (show c < xLn 16 by show _ < 4; omega)]; rfl) dX7_looks_109 ?_
          refine lv_iload_n hx hb dX7_looks_110 rfl (lv_at hl 5 rfl) ?_
          refine lv_dup2_11 hx hb dX7_looks_111 rfl rfl ?_
          refine x_iald hx hb hK hH (id := [22, 16, c]) (by first | trivial | (simp only [xD]; omega) | (simp [xD]; done) | (simp [xD]; omega)) (L := 8) rfl (r := (X 5)) (mW_r5 _ _ _) j rfl (by omega) (by decide) dX7_looks_112 ?_
          refine lv_iconst (v := 1) hx hb dX7_looks_113 (by decide) ?_
          refine lv_iadd hx hb dX7_looks_114 ?_
          obtain ⟨X2_, hX2_⟩ : ∃ z, z = up2 X 5 j ((X 5 j) + 1) := ⟨_, rfl⟩
          refine x_iast hx hb hK hH hS (id := [22, 16, c]) (by first | trivial | (simp only [xD]; omega) | (simp [xD]; done) | (simp [xD]; omega)) (L := 8) rfl j rfl (by omega) (by decide) ((mW_u5 _ _ _ _ _).trans (congrArg (mW I c) hX2_.symm)) dX7_looks_115 (fun H locs hH hS => ?_)
          refine lv_aload_n hx hb dX7_looks_116 rfl (lv_at hl 3 rfl) ?_
          refine x_get (C := RX7) (T := TX7) (N := 24) (ci := 7) hx hb hts iu7 hown hK hH (id := [20]) (by first | trivial | (simp only [xD]; omega) | (simp [xD]; done) | (simp [xD]; omega)) rfl rfl (by decide) 14 (by decide) (hts _ tw853) (fun _ h9 => h9) rfl (v := .ref (ga g [21, 14])) rfl dX7_looks_117 ?_
          refine lv_iload_n hx hb dX7_looks_120 rfl (lv_at hl 4 rfl) ?_
          refine x_aald hx hb hK hH (id := [21, 14]) (by first | trivial | (simp only [xD]; omega) | (simp [xD]; done) | (simp [xD]; omega)) 8 (L := 4) rfl (by decide) c rfl (by omega) (by decide) (v := .ref (ga g [22, 14, c])) (by show rq _ (if _ then _ else _) = _; rw [if_pos (show c < xLn 14 by show _ < 4; omega)]; rfl) dX7_looks_121 ?_
          refine lv_iload_n hx hb dX7_looks_122 rfl (lv_at hl 5 rfl) ?_
          refine lv_aload_n hx hb dX7_looks_123 rfl (lv_at hl 3 rfl) ?_
          refine x_get (C := RX7) (T := TX7) (N := 24) (ci := 7) hx hb hts iu7 hown hK hH (id := [20]) (by first | trivial | (simp only [xD]; omega) | (simp [xD]; done) | (simp [xD]; omega)) rfl rfl (by decide) 0 (by decide) (hts _ tw839) (fun _ h9 => h9) rfl (v := .ref (ga g [21, 0])) rfl dX7_looks_124 ?_
          refine lv_iload_n hx hb dX7_looks_127 rfl (lv_at hl 2 rfl) ?_
          refine x_aald hx hb hK hH (id := [21, 0]) (by first | trivial | (simp only [xD]; omega) | (simp [xD]; done) | (simp [xD]; omega)) 8 (L := 3) rfl (by decide) p rfl (by omega) (by decide) (v := .ref (ga g [22, 0, p])) (by show rq _ (if _ then _ else _) = _; rw [if_pos (show p < xLn 0 by show _ < 3; omega)]; rfl) dX7_looks_128 ?_
          refine lv_iload_n hx hb dX7_looks_129 rfl (lv_at hl 5 rfl) ?_
          refine x_cald hx hb hK hH (id := [22, 0, p]) (by first | trivial | (simp only [xD]; omega) | (simp [xD]; done) | (simp [xD]; omega)) (L := 8) rfl (r := (I [22, 0, p])) rfl j rfl (by omega) (by decide) dX7_looks_130 ?_
          rw [show (I [22, 0, p] j) = (I [7, p, j] 0) from (hA.2 j (by omega)).1]
          refine lv_bipush (v := 109) hx hb dX7_looks_131 (by decide) ?_
          refine lv_icmp_ne (tgt := 141) hx hb dX7_looks_133 (by decide) (fun c_133 => ?_) (fun c_133 => ?_)
          · skip
            refine lv_bipush (v := 97) hx hb dX7_looks_141 (by decide) ?_
            obtain ⟨X3_, hX3_⟩ : ∃ z, z = up2 X2_ 2 j 97 := ⟨_, rfl⟩
            refine x_cast hx hb hK hH hS (id := [22, 14, c]) (by first | trivial | (simp only [xD]; omega) | (simp [xD]; done) | (simp [xD]; omega)) (L := 8) rfl j rfl (by omega) (by decide) (by rfl) ((mW_u2 _ _ _ _ _).trans (congrArg (mW I c) hX3_.symm)) dX7_looks_143 (fun H locs hH hS => ?_)
            refine lv_iconst (v := 1) hx hb dX7_looks_144 (by decide) ?_
            exact x_zret hx hb hr hlocks hS dX7_looks_145 rfl (by rw [sRul_2 n1 ⟨c_58, (by rw [sPar, decide_eq_true (show vP I p j 1 = -1 from c_87)]; rfl), (Or.inl c_71)⟩]; rfl) (by rw [hX3_, hX2_] at hH; rw [sRul_2 n1 ⟨c_58, (by rw [sPar, decide_eq_true (show vP I p j 1 = -1 from c_87)]; rfl), (Or.inl c_71)⟩, show (if vP I p j 0 = 109 then (99 : Int32) else 97) = 97 from if_neg c_133]; show xR g _ (mW I c (up2 (up2 X 2 j 97) 5 j (X 5 j + 1))) _ _ _; rw [up2_comm _ _ _ _ _ (by decide)]; exact hH)
          · skip
            refine lv_bipush (v := 99) hx hb dX7_looks_136 (by decide) ?_
            refine lv_goto (tgt := 143) hx hb dX7_looks_138 (by decide) ?_
            obtain ⟨X4_, hX4_⟩ : ∃ z, z = up2 X2_ 2 j 99 := ⟨_, rfl⟩
            refine x_cast hx hb hK hH hS (id := [22, 14, c]) (by first | trivial | (simp only [xD]; omega) | (simp [xD]; done) | (simp [xD]; omega)) (L := 8) rfl j rfl (by omega) (by decide) (by rfl) ((mW_u2 _ _ _ _ _).trans (congrArg (mW I c) hX4_.symm)) dX7_looks_143 (fun H locs hH hS => ?_)
            refine lv_iconst (v := 1) hx hb dX7_looks_144 (by decide) ?_
            exact x_zret hx hb hr hlocks hS dX7_looks_145 rfl (by rw [sRul_2 n1 ⟨c_58, (by rw [sPar, decide_eq_true (show vP I p j 1 = -1 from c_87)]; rfl), (Or.inl c_71)⟩]; rfl) (by rw [hX4_, hX2_] at hH; rw [sRul_2 n1 ⟨c_58, (by rw [sPar, decide_eq_true (show vP I p j 1 = -1 from c_87)]; rfl), (Or.inl c_71)⟩, show (if vP I p j 0 = 109 then (99 : Int32) else 97) = 99 from if_pos c_133]; show xR g _ (mW I c (up2 (up2 X 2 j 99) 5 j (X 5 j + 1))) _ _ _; rw [up2_comm _ _ _ _ _ (by decide)]; exact hH)
        · skip
          obtain ⟨q, hq, h1, -⟩ := (hW.2.2.2 j hj).2.1.resolve_left c_87
          have hcl : (vP I p j 1).toNatClampNeg = q := by rw [show vP I p j 1 = nI q from h1]; exact nI_clamp (by omega)
          refine lv_aload_n hx hb dX7_looks_90 rfl (lv_at hl 3 rfl) ?_
          refine x_get (C := RX7) (T := TX7) (N := 24) (ci := 7) hx hb hts iu7 hown hK hH (id := [20]) (by first | trivial | (simp only [xD]; omega) | (simp [xD]; done) | (simp [xD]; omega)) rfl rfl (by decide) 14 (by decide) (hts _ tw853) (fun _ h9 => h9) rfl (v := .ref (ga g [21, 14])) rfl dX7_looks_91 ?_
          refine lv_iload_n hx hb dX7_looks_94 rfl (lv_at hl 4 rfl) ?_
          refine x_aald hx hb hK hH (id := [21, 14]) (by first | trivial | (simp only [xD]; omega) | (simp [xD]; done) | (simp [xD]; omega)) 8 (L := 4) rfl (by decide) c rfl (by omega) (by decide) (v := .ref (ga g [22, 14, c])) (by show rq _ (if _ then _ else _) = _; rw [if_pos (show c < xLn 14 by show _ < 4; omega)]; rfl) dX7_looks_95 ?_
          refine lv_iload hx hb dX7_looks_96 (lv_at hl 0 rfl) ?_
          refine x_cald hx hb hK hH (id := [22, 14, c]) (by first | trivial | (simp only [xD]; omega) | (simp [xD]; done) | (simp [xD]; omega)) (L := 8) rfl (r := (X 2)) (mW_r2 _ _ _) q h1 (by omega) (by decide) dX7_looks_98 ?_
          refine lv_bipush (v := 97) hx hb dX7_looks_99 (by decide) ?_
          refine lv_icmp_ne (tgt := 146) hx hb dX7_looks_101 (by decide) (fun c_101 => ?_) (fun c_101 => ?_)
          · skip
            exact J146 _ _ ⟨n1, (fun z_ => by have z2 := z_.2.1; rw [sPar, decide_eq_false (show ¬ vP I p j 1 = -1 from c_87), hcl, decide_eq_false c_101] at z2; cases z2)⟩ hH hS
          · skip
            refine lv_aload_n hx hb dX7_looks_104 rfl (lv_at hl 3 rfl) ?_
            refine x_get (C := RX7) (T := TX7) (N := 24) (ci := 7) hx hb hts iu7 hown hK hH (id := [20]) (by first | trivial | (simp only [xD]; omega) | (simp [xD]; done) | (simp [xD]; omega)) rfl rfl (by decide) 16 (by decide) (hts _ tw855) (fun _ h9 => h9) rfl (v := .ref (ga g [21, 16])) rfl dX7_looks_105 ?_
            refine lv_iload_n hx hb dX7_looks_108 rfl (lv_at hl 4 rfl) ?_
            refine x_aald hx hb hK hH (id := [21, 16]) (by first | trivial | (simp only [xD]; omega) | (simp [xD]; done) | (simp [xD]; omega)) 7 (L := 4) rfl (by decide) c rfl (by omega) (by decide) (v := .ref (ga g [22, 16, c])) (by show rq _ (if _ then _ else _) = _; rw [if_pos (show c < xLn 16 by show _ < 4; omega)]; rfl) dX7_looks_109 ?_
            refine lv_iload_n hx hb dX7_looks_110 rfl (lv_at hl 5 rfl) ?_
            refine lv_dup2_11 hx hb dX7_looks_111 rfl rfl ?_
            refine x_iald hx hb hK hH (id := [22, 16, c]) (by first | trivial | (simp only [xD]; omega) | (simp [xD]; done) | (simp [xD]; omega)) (L := 8) rfl (r := (X 5)) (mW_r5 _ _ _) j rfl (by omega) (by decide) dX7_looks_112 ?_
            refine lv_iconst (v := 1) hx hb dX7_looks_113 (by decide) ?_
            refine lv_iadd hx hb dX7_looks_114 ?_
            obtain ⟨X5_, hX5_⟩ : ∃ z, z = up2 X 5 j ((X 5 j) + 1) := ⟨_, rfl⟩
            refine x_iast hx hb hK hH hS (id := [22, 16, c]) (by first | trivial | (simp only [xD]; omega) | (simp [xD]; done) | (simp [xD]; omega)) (L := 8) rfl j rfl (by omega) (by decide) ((mW_u5 _ _ _ _ _).trans (congrArg (mW I c) hX5_.symm)) dX7_looks_115 (fun H locs hH hS => ?_)
            refine lv_aload_n hx hb dX7_looks_116 rfl (lv_at hl 3 rfl) ?_
            refine x_get (C := RX7) (T := TX7) (N := 24) (ci := 7) hx hb hts iu7 hown hK hH (id := [20]) (by first | trivial | (simp only [xD]; omega) | (simp [xD]; done) | (simp [xD]; omega)) rfl rfl (by decide) 14 (by decide) (hts _ tw853) (fun _ h9 => h9) rfl (v := .ref (ga g [21, 14])) rfl dX7_looks_117 ?_
            refine lv_iload_n hx hb dX7_looks_120 rfl (lv_at hl 4 rfl) ?_
            refine x_aald hx hb hK hH (id := [21, 14]) (by first | trivial | (simp only [xD]; omega) | (simp [xD]; done) | (simp [xD]; omega)) 8 (L := 4) rfl (by decide) c rfl (by omega) (by decide) (v := .ref (ga g [22, 14, c])) (by show rq _ (if _ then _ else _) = _; rw [if_pos (show c < xLn 14 by show _ < 4; omega)]; rfl) dX7_looks_121 ?_
            refine lv_iload_n hx hb dX7_looks_122 rfl (lv_at hl 5 rfl) ?_
            refine lv_aload_n hx hb dX7_looks_123 rfl (lv_at hl 3 rfl) ?_
            refine x_get (C := RX7) (T := TX7) (N := 24) (ci := 7) hx hb hts iu7 hown hK hH (id := [20]) (by first | trivial | (simp only [xD]; omega) | (simp [xD]; done) | (simp [xD]; omega)) rfl rfl (by decide) 0 (by decide) (hts _ tw839) (fun _ h9 => h9) rfl (v := .ref (ga g [21, 0])) rfl dX7_looks_124 ?_
            refine lv_iload_n hx hb dX7_looks_127 rfl (lv_at hl 2 rfl) ?_
            refine x_aald hx hb hK hH (id := [21, 0]) (by first | trivial | (simp only [xD]; omega) | (simp [xD]; done) | (simp [xD]; omega)) 8 (L := 3) rfl (by decide) p rfl (by omega) (by decide) (v := .ref (ga g [22, 0, p])) (by show rq _ (if _ then _ else _) = _; rw [if_pos (show p < xLn 0 by show _ < 3; omega)]; rfl) dX7_looks_128 ?_
            refine lv_iload_n hx hb dX7_looks_129 rfl (lv_at hl 5 rfl) ?_
            refine x_cald hx hb hK hH (id := [22, 0, p]) (by first | trivial | (simp only [xD]; omega) | (simp [xD]; done) | (simp [xD]; omega)) (L := 8) rfl (r := (I [22, 0, p])) rfl j rfl (by omega) (by decide) dX7_looks_130 ?_
            rw [show (I [22, 0, p] j) = (I [7, p, j] 0) from (hA.2 j (by omega)).1]
            refine lv_bipush (v := 109) hx hb dX7_looks_131 (by decide) ?_
            refine lv_icmp_ne (tgt := 141) hx hb dX7_looks_133 (by decide) (fun c_133 => ?_) (fun c_133 => ?_)
            · skip
              refine lv_bipush (v := 97) hx hb dX7_looks_141 (by decide) ?_
              obtain ⟨X6_, hX6_⟩ : ∃ z, z = up2 X5_ 2 j 97 := ⟨_, rfl⟩
              refine x_cast hx hb hK hH hS (id := [22, 14, c]) (by first | trivial | (simp only [xD]; omega) | (simp [xD]; done) | (simp [xD]; omega)) (L := 8) rfl j rfl (by omega) (by decide) (by rfl) ((mW_u2 _ _ _ _ _).trans (congrArg (mW I c) hX6_.symm)) dX7_looks_143 (fun H locs hH hS => ?_)
              refine lv_iconst (v := 1) hx hb dX7_looks_144 (by decide) ?_
              exact x_zret hx hb hr hlocks hS dX7_looks_145 rfl (by rw [sRul_2 n1 ⟨c_58, (by rw [sPar, hcl, decide_eq_true c_101, Bool.or_true]), (Or.inl c_71)⟩]; rfl) (by rw [hX6_, hX5_] at hH; rw [sRul_2 n1 ⟨c_58, (by rw [sPar, hcl, decide_eq_true c_101, Bool.or_true]), (Or.inl c_71)⟩, show (if vP I p j 0 = 109 then (99 : Int32) else 97) = 97 from if_neg c_133]; show xR g _ (mW I c (up2 (up2 X 2 j 97) 5 j (X 5 j + 1))) _ _ _; rw [up2_comm _ _ _ _ _ (by decide)]; exact hH)
            · skip
              refine lv_bipush (v := 99) hx hb dX7_looks_136 (by decide) ?_
              refine lv_goto (tgt := 143) hx hb dX7_looks_138 (by decide) ?_
              obtain ⟨X7_, hX7_⟩ : ∃ z, z = up2 X5_ 2 j 99 := ⟨_, rfl⟩
              refine x_cast hx hb hK hH hS (id := [22, 14, c]) (by first | trivial | (simp only [xD]; omega) | (simp [xD]; done) | (simp [xD]; omega)) (L := 8) rfl j rfl (by omega) (by decide) (by rfl) ((mW_u2 _ _ _ _ _).trans (congrArg (mW I c) hX7_.symm)) dX7_looks_143 (fun H locs hH hS => ?_)
              refine lv_iconst (v := 1) hx hb dX7_looks_144 (by decide) ?_
              exact x_zret hx hb hr hlocks hS dX7_looks_145 rfl (by rw [sRul_2 n1 ⟨c_58, (by rw [sPar, hcl, decide_eq_true c_101, Bool.or_true]), (Or.inl c_71)⟩]; rfl) (by rw [hX7_, hX5_] at hH; rw [sRul_2 n1 ⟨c_58, (by rw [sPar, hcl, decide_eq_true c_101, Bool.or_true]), (Or.inl c_71)⟩, show (if vP I p j 0 = 109 then (99 : Int32) else 97) = 99 from if_pos c_133]; show xR g _ (mW I c (up2 (up2 X 2 j 99) 5 j (X 5 j + 1))) _ _ _; rw [up2_comm _ _ _ _ _ (by decide)]; exact hH)
      · skip
        have c_71 : ¬ _ := fun z_ => c_71 ((nI_eq (a := (sCn h p j 0)) (b := 0) (by omega) (by omega)).mpr z_)
        refine lv_aload_n hx hb dX7_looks_74 rfl (lv_at hl 3 rfl) ?_
        refine lv_iload_n hx hb dX7_looks_75 rfl (lv_at hl 4 rfl) ?_
        refine lv_iload_n hx hb dX7_looks_76 rfl (lv_at hl 5 rfl) ?_
        refine lv_iconst (v := 0) hx hb dX7_looks_77 (by decide) ?_
        refine x_V1 hx hb hml hown hE hS hl.1 cyX7_holdsOne tw992 (c_X7_holdsOne_0 l g h I n c X hc p hpp hpo hA hW j hj) ⟨Nat.le_of_ble_eq_true rfl, Nat.le_of_ble_eq_true rfl⟩ ⟨Nat.le_of_ble_eq_true rfl, Nat.le_of_ble_eq_true rfl⟩ (x_recv hK hH (id := [20]) (by first | trivial | (simp only [xD]; omega) | (simp [xD]; done) | (simp [xD]; omega)) (ci := 7) rfl (by decide) rfl) hH rfl rfl (Nat.le_of_ble_eq_true rfl) dX7_looks_78 (fun H locs hH hS => ?_)
        refine lv_if_eq (tgt := 146) hx hb dX7_looks_81 (by decide) (fun c_81 => ?_) (fun c_81 => ?_)
        · skip
          exact J146 _ _ ⟨n1, (fun z_ => by rcases z_.2.2 with z2 | z2; exact c_71 z2; have z3 := (b01_eq0 _).mp c_81; rw [z2] at z3; cases z3)⟩ hH hS
        · skip
          refine lv_iload hx hb dX7_looks_84 (lv_at hl 0 rfl) ?_
          refine lv_iconst (v := (-1)) hx hb dX7_looks_86 (by decide) ?_
          refine lv_icmp_eq (tgt := 104) hx hb dX7_looks_87 (by decide) (fun c_87 => ?_) (fun c_87 => ?_)
          · skip
            refine lv_aload_n hx hb dX7_looks_104 rfl (lv_at hl 3 rfl) ?_
            refine x_get (C := RX7) (T := TX7) (N := 24) (ci := 7) hx hb hts iu7 hown hK hH (id := [20]) (by first | trivial | (simp only [xD]; omega) | (simp [xD]; done) | (simp [xD]; omega)) rfl rfl (by decide) 16 (by decide) (hts _ tw855) (fun _ h9 => h9) rfl (v := .ref (ga g [21, 16])) rfl dX7_looks_105 ?_
            refine lv_iload_n hx hb dX7_looks_108 rfl (lv_at hl 4 rfl) ?_
            refine x_aald hx hb hK hH (id := [21, 16]) (by first | trivial | (simp only [xD]; omega) | (simp [xD]; done) | (simp [xD]; omega)) 7 (L := 4) rfl (by decide) c rfl (by omega) (by decide) (v := .ref (ga g [22, 16, c])) (by show rq _ (if _ then _ else _) = _; rw [if_pos (show c < xLn 16 by show _ < 4; omega)]; rfl) dX7_looks_109 ?_
            refine lv_iload_n hx hb dX7_looks_110 rfl (lv_at hl 5 rfl) ?_
            refine lv_dup2_11 hx hb dX7_looks_111 rfl rfl ?_
            refine x_iald hx hb hK hH (id := [22, 16, c]) (by first | trivial | (simp only [xD]; omega) | (simp [xD]; done) | (simp [xD]; omega)) (L := 8) rfl (r := (X 5)) (mW_r5 _ _ _) j rfl (by omega) (by decide) dX7_looks_112 ?_
            refine lv_iconst (v := 1) hx hb dX7_looks_113 (by decide) ?_
            refine lv_iadd hx hb dX7_looks_114 ?_
            obtain ⟨X8_, hX8_⟩ : ∃ z, z = up2 X 5 j ((X 5 j) + 1) := ⟨_, rfl⟩
            refine x_iast hx hb hK hH hS (id := [22, 16, c]) (by first | trivial | (simp only [xD]; omega) | (simp [xD]; done) | (simp [xD]; omega)) (L := 8) rfl j rfl (by omega) (by decide) ((mW_u5 _ _ _ _ _).trans (congrArg (mW I c) hX8_.symm)) dX7_looks_115 (fun H locs hH hS => ?_)
            refine lv_aload_n hx hb dX7_looks_116 rfl (lv_at hl 3 rfl) ?_
            refine x_get (C := RX7) (T := TX7) (N := 24) (ci := 7) hx hb hts iu7 hown hK hH (id := [20]) (by first | trivial | (simp only [xD]; omega) | (simp [xD]; done) | (simp [xD]; omega)) rfl rfl (by decide) 14 (by decide) (hts _ tw853) (fun _ h9 => h9) rfl (v := .ref (ga g [21, 14])) rfl dX7_looks_117 ?_
            refine lv_iload_n hx hb dX7_looks_120 rfl (lv_at hl 4 rfl) ?_
            refine x_aald hx hb hK hH (id := [21, 14]) (by first | trivial | (simp only [xD]; omega) | (simp [xD]; done) | (simp [xD]; omega)) 8 (L := 4) rfl (by decide) c rfl (by omega) (by decide) (v := .ref (ga g [22, 14, c])) (by show rq _ (if _ then _ else _) = _; rw [if_pos (show c < xLn 14 by show _ < 4; omega)]; rfl) dX7_looks_121 ?_
            refine lv_iload_n hx hb dX7_looks_122 rfl (lv_at hl 5 rfl) ?_
            refine lv_aload_n hx hb dX7_looks_123 rfl (lv_at hl 3 rfl) ?_
            refine x_get (C := RX7) (T := TX7) (N := 24) (ci := 7) hx hb hts iu7 hown hK hH (id := [20]) (by first | trivial | (simp only [xD]; omega) | (simp [xD]; done) | (simp [xD]; omega)) rfl rfl (by decide) 0 (by decide) (hts _ tw839) (fun _ h9 => h9) rfl (v := .ref (ga g [21, 0])) rfl dX7_looks_124 ?_
            refine lv_iload_n hx hb dX7_looks_127 rfl (lv_at hl 2 rfl) ?_
            refine x_aald hx hb hK hH (id := [21, 0]) (by first | trivial | (simp only [xD]; omega) | (simp [xD]; done) | (simp [xD]; omega)) 8 (L := 3) rfl (by decide) p rfl (by omega) (by decide) (v := .ref (ga g [22, 0, p])) (by show rq _ (if _ then _ else _) = _; rw [if_pos (show p < xLn 0 by show _ < 3; omega)]; rfl) dX7_looks_128 ?_
            refine lv_iload_n hx hb dX7_looks_129 rfl (lv_at hl 5 rfl) ?_
            refine x_cald hx hb hK hH (id := [22, 0, p]) (by first | trivial | (simp only [xD]; omega) | (simp [xD]; done) | (simp [xD]; omega)) (L := 8) rfl (r := (I [22, 0, p])) rfl j rfl (by omega) (by decide) dX7_looks_130 ?_
            rw [show (I [22, 0, p] j) = (I [7, p, j] 0) from (hA.2 j (by omega)).1]
            refine lv_bipush (v := 109) hx hb dX7_looks_131 (by decide) ?_
            refine lv_icmp_ne (tgt := 141) hx hb dX7_looks_133 (by decide) (fun c_133 => ?_) (fun c_133 => ?_)
            · skip
              refine lv_bipush (v := 97) hx hb dX7_looks_141 (by decide) ?_
              obtain ⟨X9_, hX9_⟩ : ∃ z, z = up2 X8_ 2 j 97 := ⟨_, rfl⟩
              refine x_cast hx hb hK hH hS (id := [22, 14, c]) (by first | trivial | (simp only [xD]; omega) | (simp [xD]; done) | (simp [xD]; omega)) (L := 8) rfl j rfl (by omega) (by decide) (by rfl) ((mW_u2 _ _ _ _ _).trans (congrArg (mW I c) hX9_.symm)) dX7_looks_143 (fun H locs hH hS => ?_)
              refine lv_iconst (v := 1) hx hb dX7_looks_144 (by decide) ?_
              exact x_zret hx hb hr hlocks hS dX7_looks_145 rfl (by rw [sRul_2 n1 ⟨c_58, (by rw [sPar, decide_eq_true (show vP I p j 1 = -1 from c_87)]; rfl), (Or.inr (b01_ne0 c_81))⟩]; rfl) (by rw [hX9_, hX8_] at hH; rw [sRul_2 n1 ⟨c_58, (by rw [sPar, decide_eq_true (show vP I p j 1 = -1 from c_87)]; rfl), (Or.inr (b01_ne0 c_81))⟩, show (if vP I p j 0 = 109 then (99 : Int32) else 97) = 97 from if_neg c_133]; show xR g _ (mW I c (up2 (up2 X 2 j 97) 5 j (X 5 j + 1))) _ _ _; rw [up2_comm _ _ _ _ _ (by decide)]; exact hH)
            · skip
              refine lv_bipush (v := 99) hx hb dX7_looks_136 (by decide) ?_
              refine lv_goto (tgt := 143) hx hb dX7_looks_138 (by decide) ?_
              obtain ⟨X10_, hX10_⟩ : ∃ z, z = up2 X8_ 2 j 99 := ⟨_, rfl⟩
              refine x_cast hx hb hK hH hS (id := [22, 14, c]) (by first | trivial | (simp only [xD]; omega) | (simp [xD]; done) | (simp [xD]; omega)) (L := 8) rfl j rfl (by omega) (by decide) (by rfl) ((mW_u2 _ _ _ _ _).trans (congrArg (mW I c) hX10_.symm)) dX7_looks_143 (fun H locs hH hS => ?_)
              refine lv_iconst (v := 1) hx hb dX7_looks_144 (by decide) ?_
              exact x_zret hx hb hr hlocks hS dX7_looks_145 rfl (by rw [sRul_2 n1 ⟨c_58, (by rw [sPar, decide_eq_true (show vP I p j 1 = -1 from c_87)]; rfl), (Or.inr (b01_ne0 c_81))⟩]; rfl) (by rw [hX10_, hX8_] at hH; rw [sRul_2 n1 ⟨c_58, (by rw [sPar, decide_eq_true (show vP I p j 1 = -1 from c_87)]; rfl), (Or.inr (b01_ne0 c_81))⟩, show (if vP I p j 0 = 109 then (99 : Int32) else 97) = 99 from if_pos c_133]; show xR g _ (mW I c (up2 (up2 X 2 j 99) 5 j (X 5 j + 1))) _ _ _; rw [up2_comm _ _ _ _ _ (by decide)]; exact hH)
          · skip
            obtain ⟨q, hq, h1, -⟩ := (hW.2.2.2 j hj).2.1.resolve_left c_87
            have hcl : (vP I p j 1).toNatClampNeg = q := by rw [show vP I p j 1 = nI q from h1]; exact nI_clamp (by omega)
            refine lv_aload_n hx hb dX7_looks_90 rfl (lv_at hl 3 rfl) ?_
            refine x_get (C := RX7) (T := TX7) (N := 24) (ci := 7) hx hb hts iu7 hown hK hH (id := [20]) (by first | trivial | (simp only [xD]; omega) | (simp [xD]; done) | (simp [xD]; omega)) rfl rfl (by decide) 14 (by decide) (hts _ tw853) (fun _ h9 => h9) rfl (v := .ref (ga g [21, 14])) rfl dX7_looks_91 ?_
            refine lv_iload_n hx hb dX7_looks_94 rfl (lv_at hl 4 rfl) ?_
            refine x_aald hx hb hK hH (id := [21, 14]) (by first | trivial | (simp only [xD]; omega) | (simp [xD]; done) | (simp [xD]; omega)) 8 (L := 4) rfl (by decide) c rfl (by omega) (by decide) (v := .ref (ga g [22, 14, c])) (by show rq _ (if _ then _ else _) = _; rw [if_pos (show c < xLn 14 by show _ < 4; omega)]; rfl) dX7_looks_95 ?_
            refine lv_iload hx hb dX7_looks_96 (lv_at hl 0 rfl) ?_
            refine x_cald hx hb hK hH (id := [22, 14, c]) (by first | trivial | (simp only [xD]; omega) | (simp [xD]; done) | (simp [xD]; omega)) (L := 8) rfl (r := (X 2)) (mW_r2 _ _ _) q h1 (by omega) (by decide) dX7_looks_98 ?_
            refine lv_bipush (v := 97) hx hb dX7_looks_99 (by decide) ?_
            refine lv_icmp_ne (tgt := 146) hx hb dX7_looks_101 (by decide) (fun c_101 => ?_) (fun c_101 => ?_)
            · skip
              exact J146 _ _ ⟨n1, (fun z_ => by have z2 := z_.2.1; rw [sPar, decide_eq_false (show ¬ vP I p j 1 = -1 from c_87), hcl, decide_eq_false c_101] at z2; cases z2)⟩ hH hS
            · skip
              refine lv_aload_n hx hb dX7_looks_104 rfl (lv_at hl 3 rfl) ?_
              refine x_get (C := RX7) (T := TX7) (N := 24) (ci := 7) hx hb hts iu7 hown hK hH (id := [20]) (by first | trivial | (simp only [xD]; omega) | (simp [xD]; done) | (simp [xD]; omega)) rfl rfl (by decide) 16 (by decide) (hts _ tw855) (fun _ h9 => h9) rfl (v := .ref (ga g [21, 16])) rfl dX7_looks_105 ?_
              refine lv_iload_n hx hb dX7_looks_108 rfl (lv_at hl 4 rfl) ?_
              refine x_aald hx hb hK hH (id := [21, 16]) (by first | trivial | (simp only [xD]; omega) | (simp [xD]; done) | (simp [xD]; omega)) 7 (L := 4) rfl (by decide) c rfl (by omega) (by decide) (v := .ref (ga g [22, 16, c])) (by show rq _ (if _ then _ else _) = _; rw [if_pos (show c < xLn 16 by show _ < 4; omega)]; rfl) dX7_looks_109 ?_
              refine lv_iload_n hx hb dX7_looks_110 rfl (lv_at hl 5 rfl) ?_
              refine lv_dup2_11 hx hb dX7_looks_111 rfl rfl ?_
              refine x_iald hx hb hK hH (id := [22, 16, c]) (by first | trivial | (simp only [xD]; omega) | (simp [xD]; done) | (simp [xD]; omega)) (L := 8) rfl (r := (X 5)) (mW_r5 _ _ _) j rfl (by omega) (by decide) dX7_looks_112 ?_
              refine lv_iconst (v := 1) hx hb dX7_looks_113 (by decide) ?_
              refine lv_iadd hx hb dX7_looks_114 ?_
              obtain ⟨X11_, hX11_⟩ : ∃ z, z = up2 X 5 j ((X 5 j) + 1) := ⟨_, rfl⟩
              refine x_iast hx hb hK hH hS (id := [22, 16, c]) (by first | trivial | (simp only [xD]; omega) | (simp [xD]; done) | (simp [xD]; omega)) (L := 8) rfl j rfl (by omega) (by decide) ((mW_u5 _ _ _ _ _).trans (congrArg (mW I c) hX11_.symm)) dX7_looks_115 (fun H locs hH hS => ?_)
              refine lv_aload_n hx hb dX7_looks_116 rfl (lv_at hl 3 rfl) ?_
              refine x_get (C := RX7) (T := TX7) (N := 24) (ci := 7) hx hb hts iu7 hown hK hH (id := [20]) (by first | trivial | (simp only [xD]; omega) | (simp [xD]; done) | (simp [xD]; omega)) rfl rfl (by decide) 14 (by decide) (hts _ tw853) (fun _ h9 => h9) rfl (v := .ref (ga g [21, 14])) rfl dX7_looks_117 ?_
              refine lv_iload_n hx hb dX7_looks_120 rfl (lv_at hl 4 rfl) ?_
              refine x_aald hx hb hK hH (id := [21, 14]) (by first | trivial | (simp only [xD]; omega) | (simp [xD]; done) | (simp [xD]; omega)) 8 (L := 4) rfl (by decide) c rfl (by omega) (by decide) (v := .ref (ga g [22, 14, c])) (by show rq _ (if _ then _ else _) = _; rw [if_pos (show c < xLn 14 by show _ < 4; omega)]; rfl) dX7_looks_121 ?_
              refine lv_iload_n hx hb dX7_looks_122 rfl (lv_at hl 5 rfl) ?_
              refine lv_aload_n hx hb dX7_looks_123 rfl (lv_at hl 3 rfl) ?_
              refine x_get (C := RX7) (T := TX7) (N := 24) (ci := 7) hx hb hts iu7 hown hK hH (id := [20]) (by first | trivial | (simp only [xD]; omega) | (simp [xD]; done) | (simp [xD]; omega)) rfl rfl (by decide) 0 (by decide) (hts _ tw839) (fun _ h9 => h9) rfl (v := .ref (ga g [21, 0])) rfl dX7_looks_124 ?_
              refine lv_iload_n hx hb dX7_looks_127 rfl (lv_at hl 2 rfl) ?_
              refine x_aald hx hb hK hH (id := [21, 0]) (by first | trivial | (simp only [xD]; omega) | (simp [xD]; done) | (simp [xD]; omega)) 8 (L := 3) rfl (by decide) p rfl (by omega) (by decide) (v := .ref (ga g [22, 0, p])) (by show rq _ (if _ then _ else _) = _; rw [if_pos (show p < xLn 0 by show _ < 3; omega)]; rfl) dX7_looks_128 ?_
              refine lv_iload_n hx hb dX7_looks_129 rfl (lv_at hl 5 rfl) ?_
              refine x_cald hx hb hK hH (id := [22, 0, p]) (by first | trivial | (simp only [xD]; omega) | (simp [xD]; done) | (simp [xD]; omega)) (L := 8) rfl (r := (I [22, 0, p])) rfl j rfl (by omega) (by decide) dX7_looks_130 ?_
              rw [show (I [22, 0, p] j) = (I [7, p, j] 0) from (hA.2 j (by omega)).1]
              refine lv_bipush (v := 109) hx hb dX7_looks_131 (by decide) ?_
              refine lv_icmp_ne (tgt := 141) hx hb dX7_looks_133 (by decide) (fun c_133 => ?_) (fun c_133 => ?_)
              · skip
                refine lv_bipush (v := 97) hx hb dX7_looks_141 (by decide) ?_
                obtain ⟨X12_, hX12_⟩ : ∃ z, z = up2 X11_ 2 j 97 := ⟨_, rfl⟩
                refine x_cast hx hb hK hH hS (id := [22, 14, c]) (by first | trivial | (simp only [xD]; omega) | (simp [xD]; done) | (simp [xD]; omega)) (L := 8) rfl j rfl (by omega) (by decide) (by rfl) ((mW_u2 _ _ _ _ _).trans (congrArg (mW I c) hX12_.symm)) dX7_looks_143 (fun H locs hH hS => ?_)
                refine lv_iconst (v := 1) hx hb dX7_looks_144 (by decide) ?_
                exact x_zret hx hb hr hlocks hS dX7_looks_145 rfl (by rw [sRul_2 n1 ⟨c_58, (by rw [sPar, hcl, decide_eq_true c_101, Bool.or_true]), (Or.inr (b01_ne0 c_81))⟩]; rfl) (by rw [hX12_, hX11_] at hH; rw [sRul_2 n1 ⟨c_58, (by rw [sPar, hcl, decide_eq_true c_101, Bool.or_true]), (Or.inr (b01_ne0 c_81))⟩, show (if vP I p j 0 = 109 then (99 : Int32) else 97) = 97 from if_neg c_133]; show xR g _ (mW I c (up2 (up2 X 2 j 97) 5 j (X 5 j + 1))) _ _ _; rw [up2_comm _ _ _ _ _ (by decide)]; exact hH)
              · skip
                refine lv_bipush (v := 99) hx hb dX7_looks_136 (by decide) ?_
                refine lv_goto (tgt := 143) hx hb dX7_looks_138 (by decide) ?_
                obtain ⟨X13_, hX13_⟩ : ∃ z, z = up2 X11_ 2 j 99 := ⟨_, rfl⟩
                refine x_cast hx hb hK hH hS (id := [22, 14, c]) (by first | trivial | (simp only [xD]; omega) | (simp [xD]; done) | (simp [xD]; omega)) (L := 8) rfl j rfl (by omega) (by decide) (by rfl) ((mW_u2 _ _ _ _ _).trans (congrArg (mW I c) hX13_.symm)) dX7_looks_143 (fun H locs hH hS => ?_)
                refine lv_iconst (v := 1) hx hb dX7_looks_144 (by decide) ?_
                exact x_zret hx hb hr hlocks hS dX7_looks_145 rfl (by rw [sRul_2 n1 ⟨c_58, (by rw [sPar, hcl, decide_eq_true c_101, Bool.or_true]), (Or.inr (b01_ne0 c_81))⟩]; rfl) (by rw [hX13_, hX11_] at hH; rw [sRul_2 n1 ⟨c_58, (by rw [sPar, hcl, decide_eq_true c_101, Bool.or_true]), (Or.inr (b01_ne0 c_81))⟩, show (if vP I p j 0 = 109 then (99 : Int32) else 97) = 99 from if_pos c_133]; show xR g _ (mW I c (up2 (up2 X 2 j 99) 5 j (X 5 j + 1))) _ _ _; rw [up2_comm _ _ _ _ _ (by decide)]; exact hH)
  refine lv_iload hx hb dX7_looks_27 (lv_at hl 1 rfl) ?_
  refine lv_bipush (v := 97) hx hb dX7_looks_29 (by decide) ?_
  refine lv_icmp_ne (tgt := 54) hx hb dX7_looks_31 (by decide) (fun c_31 => ?_) (fun c_31 => ?_)
  · skip
    exact J54 _ _ (fun z_ => c_31 z_.1) hH hS
  · skip
    refine lv_aload_n hx hb dX7_looks_34 rfl (lv_at hl 3 rfl) ?_
    refine lv_iload_n hx hb dX7_looks_35 rfl (lv_at hl 4 rfl) ?_
    refine lv_iload_n hx hb dX7_looks_36 rfl (lv_at hl 5 rfl) ?_
    refine lv_iconst (v := 1) hx hb dX7_looks_37 (by decide) ?_
    refine x_V1 hx hb hml hown hE hS hl.1 cyX7_holdsOne tw992 (c_X7_holdsOne_1 l g h I n c X hc p hpp hpo hA hW j hj) ⟨Nat.le_of_ble_eq_true rfl, Nat.le_of_ble_eq_true rfl⟩ ⟨Nat.le_of_ble_eq_true rfl, Nat.le_of_ble_eq_true rfl⟩ (x_recv hK hH (id := [20]) (by first | trivial | (simp only [xD]; omega) | (simp [xD]; done) | (simp [xD]; omega)) (ci := 7) rfl (by decide) rfl) hH rfl rfl (Nat.le_of_ble_eq_true rfl) dX7_looks_38 (fun H locs hH hS => ?_)
    refine lv_if_eq (tgt := 54) hx hb dX7_looks_41 (by decide) (fun c_41 => ?_) (fun c_41 => ?_)
    · skip
      exact J54 _ _ (fun z_ => by have z2 := (b01_eq0 _).mp c_41; rw [z_.2] at z2; cases z2) hH hS
    · skip
      refine lv_aload_n hx hb dX7_looks_44 rfl (lv_at hl 3 rfl) ?_
      refine lv_iload_n hx hb dX7_looks_45 rfl (lv_at hl 4 rfl) ?_
      refine lv_iload_n hx hb dX7_looks_46 rfl (lv_at hl 5 rfl) ?_
      refine lv_bipush (v := 120) hx hb dX7_looks_47 (by decide) ?_
      refine x_V0 hx hb hml hown hE hS hl.1 cyX7_becomes tw1000 (c_X7_becomes_7_120 l g h I n c X hc p hpp hpo hA hW j hj (by omega)) ⟨Nat.le_of_ble_eq_true rfl, Nat.le_of_ble_eq_true rfl⟩ ⟨Nat.le_of_ble_eq_true rfl, Nat.le_of_ble_eq_true rfl⟩ (x_recv hK hH (id := [20]) (by first | trivial | (simp only [xD]; omega) | (simp [xD]; done) | (simp [xD]; omega)) (ci := 7) rfl (by decide) rfl) hH rfl rfl (Nat.le_of_ble_eq_true rfl) dX7_looks_49 (fun H locs hH hS => ?_)
      refine lv_iconst (v := 1) hx hb dX7_looks_52 (by decide) ?_
      exact x_zret hx hb hr hlocks hS dX7_looks_53 rfl (by rw [sRul_1 ⟨c_31, b01_ne0 c_41⟩]; rfl) (by rw [sRul_1 ⟨c_31, b01_ne0 c_41⟩]; exact hH)

theorem sRul_0 (P : Nat → Nat → Int32) (C : Nat → Nat → Nat → Nat → Int32) (cn : Nat → Nat → Nat) (n : Nat) (X : xX) (j : Nat) : (sRul P C cn n X j).2 0 = X 0 := by
  unfold sRul
  split
  · rfl
  · split
    · funext q; simp [up2]
    · split
      · rfl
      · split
        · funext q; simp [up2]
        · rfl
theorem sSwp_0 (P : Nat → Nat → Int32) (C : Nat → Nat → Nat → Nat → Int32) (cn : Nat → Nat → Nat) (n : Nat) (X : xX) : ∀ i, (sSwp P C cn n i X).2 0 = X 0
  | 0 => rfl
  | i + 1 => (sRul_0 P C cn n _ i).trans (sSwp_0 P C cn n X i)
theorem up2_self {α : Type} (X : Nat → Nat → α) (f k : Nat) : up2 X f k (X f k) = X := by
  funext a b; unfold up2
  split
  · rename_i h; rw [h.1, h.2]
  · rfl
set_option maxHeartbeats 2000000 in
set_option maxRecDepth 100000 in
theorem c_X7_goes (l : Launch) (g : xG) (h : xS) (I : xI) (n c : Nat) (X : xX) (hc : c < 4) (p : Nat) (hpp : p < 3) (hpo : I [24, 11] c = nI p) (hA : mA h I p) (hW : xWp h I p)  : xM l yX7_goes (xws yX7_goes cX7_goes 5 none) 18 413 g [.ref (ga g [20]), .int (nI c)] (xR g (xD h) (mW I c X) (xFh h) n) none (xR g (xD h) (mW I c (sTail (vP I p) (vC I p) (sCn h p) (sSz h p) X)) (xFh h) n) 0 0 := by
  refine xM.of (by decide) (Nat.le_of_ble_eq_true rfl) ?_
  intro P_ e_ s m_ bl_ mt_ cd_ ls hx hb hr hown hlocks hml hnm hE hK hts hH hS hl
  have hl : lv_has ls 5 [(0, .ref (ga g [20])), (1, .int (nI c))] := hl
  have h8 := hW.1
  refine lv_aload_n hx hb dX7_goes_0 rfl (lv_at hl 0 rfl) ?_
  refine x_get (C := RX7) (T := TX7) (N := 24) (ci := 7) hx hb hts iu7 hown hK hH (id := [20]) (by first | trivial | (simp only [xD]; omega) | (simp [xD]; done) | (simp [xD]; omega)) rfl rfl (by decide) 19 (by decide) (hts _ tw858) (fun _ h9 => h9) rfl (v := .ref (ga g [24, 19])) rfl dX7_goes_1 ?_
  refine lv_iload_n hx hb dX7_goes_4 rfl (lv_at hl 1 rfl) ?_
  refine lv_dup2_11 hx hb dX7_goes_5 rfl rfl ?_
  refine x_iald hx hb hK hH (id := [24, 19]) (by first | trivial | (simp only [xD]; omega) | (simp [xD]; done) | (simp [xD]; omega)) (L := 4) rfl (r := (mW I c X [24, 19])) rfl c rfl (by omega) (by decide) dX7_goes_6 ?_
  rw [show (mW I c X [24, 19] c) = (X 0 10) from mW_c10 _ _ _]
  refine lv_iconst (v := 1) hx hb dX7_goes_7 (by decide) ?_
  refine lv_iadd hx hb dX7_goes_8 ?_
  obtain ⟨X1_, hX1_⟩ : ∃ z, z = up2 X 0 10 ((X 0 10) + 1) := ⟨_, rfl⟩
  refine x_iast hx hb hK hH hS (id := [24, 19]) (by first | trivial | (simp only [xD]; omega) | (simp [xD]; done) | (simp [xD]; omega)) (L := 4) rfl c rfl (by omega) (by decide) ((mW_u0_10 _ _ _ _).trans (congrArg (mW I c) hX1_.symm)) dX7_goes_9 (fun H locs hH hS => ?_)
  refine lv_aload_n hx hb dX7_goes_10 rfl (lv_at hl 0 rfl) ?_
  refine x_get (C := RX7) (T := TX7) (N := 24) (ci := 7) hx hb hts iu7 hown hK hH (id := [20]) (by first | trivial | (simp only [xD]; omega) | (simp [xD]; done) | (simp [xD]; omega)) rfl rfl (by decide) 18 (by decide) (hts _ tw857) (fun _ h9 => h9) rfl (v := .ref (ga g [24, 18])) rfl dX7_goes_11 ?_
  refine lv_iload_n hx hb dX7_goes_14 rfl (lv_at hl 1 rfl) ?_
  refine lv_iconst (v := 0) hx hb dX7_goes_15 (by decide) ?_
  obtain ⟨X2_, hX2_⟩ : ∃ z, z = up2 X1_ 0 9 0 := ⟨_, rfl⟩
  refine x_iast hx hb hK hH hS (id := [24, 18]) (by first | trivial | (simp only [xD]; omega) | (simp [xD]; done) | (simp [xD]; omega)) (L := 4) rfl c rfl (by omega) (by decide) ((mW_u0_9 _ _ _ _).trans (congrArg (mW I c) hX2_.symm)) dX7_goes_16 (fun H locs hH hS => ?_)
  refine lv_iconst (v := 1) hx hb dX7_goes_17 (by decide) ?_
  refine lv_istore_n (lv' := [(2, .int 1), (0, .ref (ga g [20])), (1, .int (nI c))]) hx hb dX7_goes_18 rfl hl (by decide) rfl (fun ls hl => ?_)
  have L19 : ∀ (fu : Nat) (r : Nat) (mo : Nat) (Y : xX) (H : Heap) (locs : List Loc) (ls : Array Slot), (r ≤ 20) → (mo ≤ 1) → (Y 0 9 = nI r) → (sRun (vP I p) (vC I p) (sCn h p) (sSz h p) (up2 X 0 10 (X 0 10 + 1)) = if mo = 1 then sRnd (vP I p) (vC I p) (sCn h p) (sSz h p) (20 - r) r Y else Y) → 2 * (20 - r) + mo < fu → xR g (xD h) (mW I c Y) (xFh h) n H → va_S (gA g) s.heap H locs → lv_has ls 5 [(0, .ref (ga g [20])), (1, .int (nI c)), (2, .int (nI mo))] → W P_ l e_ { frames := 18, cells := 0, slots := 0, locals := 413 } s m_ ([.ref (ga g [20]), .int (nI c)] : List Value).toArray bl_ mt_ cd_ H locs 0 0 (MQ bl_ (xQc g none (xR g (xD h) (mW I c (sTail (vP I p) (vC I p) (sCn h p) (sSz h p) X)) (xFh h) n)) ([.ref (ga g [20]), .int (nI c)] : List Value).toArray s 0 0 (gA g)) (F0 m_ 19 ls []) := by
    intro fu
    induction fu with
    | zero => intro r mo Y H locs ls hr20 hmo h9 hY hfu; exact absurd hfu (Nat.not_lt_zero _)
    | succ fu ih19 =>
      intro r mo Y H locs ls hr20 hmo h9 hY hfu hH hS hl
      refine lv_iload_n hx hb dX7_goes_19 rfl (lv_at hl 2 rfl) ?_
      refine lv_if_eq (tgt := 103) hx hb dX7_goes_20 (by decide) (fun c_20 => ?_) (fun c_20 => ?_)
      · skip
        have c_20 := (nI_eq (a := mo) (b := 0) (by omega) (by omega)).mp c_20
        refine lv_aload_n hx hb dX7_goes_103 rfl (lv_at hl 0 rfl) ?_
        refine lv_iconst (v := (-1)) hx hb dX7_goes_104 (by decide) ?_
        obtain ⟨X3_, hX3_⟩ : ∃ z, z = up2 Y 0 8 (-1) := ⟨_, rfl⟩
        refine x_put (C := RX7) (T := TX7) (N := 24) (ci := 7) hx hb hts iu7 tyX7 tyX7_ok nmX7 hown hK hH hS (id := [20]) (by first | trivial | (simp only [xD]; omega) | (simp [xD]; done) | (simp [xD]; omega)) rfl rfl (by decide) 21 (by decide) (hts _ tw860) (fun _ h9 => h9) (Or.inl rfl) (ty := .int) (v := .int (-1)) (by decide +kernel) rfl rfl (I' := (mW I c X3_)) (F' := (xFh h)) (fun i hi => by rw [show (mW I c X3_) = _ from Eq.symm ((mW_u0_8 _ _ _ _).trans (congrArg (mW I c) hX3_.symm))]; exact up_id hi) (fun _ _ => rfl) (fun j9 => by rw [show (mW I c X3_) = _ from Eq.symm ((mW_u0_8 _ _ _ _).trans (congrArg (mW I c) hX3_.symm)), up_row]; exact xv_upd rfl j9) dX7_goes_105 (fun H locs hH hS => ?_)
        have hfin : sRun (vP I p) (vC I p) (sCn h p) (sSz h p) (up2 X 0 10 (X 0 10 + 1)) = Y := by rw [hY, if_neg (by omega)]
        exact x_vret hx hb hr hlocks hS dX7_goes_108 (by rw [hX3_] at hH; unfold sTail; rw [hfin]; exact hH)
      · skip
        have c_20 : ¬ _ := fun z_ => c_20 ((nI_eq (a := mo) (b := 0) (by omega) (by omega)).mpr z_)
        have hm1 : mo = 1 := by omega
        have hYm : sRun (vP I p) (vC I p) (sCn h p) (sSz h p) (up2 X 0 10 (X 0 10 + 1)) = sRnd (vP I p) (vC I p) (sCn h p) (sSz h p) (20 - r) r Y := by rw [hY, if_pos hm1]
        refine lv_aload_n hx hb dX7_goes_23 rfl (lv_at hl 0 rfl) ?_
        refine x_get (C := RX7) (T := TX7) (N := 24) (ci := 7) hx hb hts iu7 hown hK hH (id := [20]) (by first | trivial | (simp only [xD]; omega) | (simp [xD]; done) | (simp [xD]; omega)) rfl rfl (by decide) 18 (by decide) (hts _ tw857) (fun _ h9 => h9) rfl (v := .ref (ga g [24, 18])) rfl dX7_goes_24 ?_
        refine lv_iload_n hx hb dX7_goes_27 rfl (lv_at hl 1 rfl) ?_
        refine x_iald hx hb hK hH (id := [24, 18]) (by first | trivial | (simp only [xD]; omega) | (simp [xD]; done) | (simp [xD]; omega)) (L := 4) rfl (r := (mW I c Y [24, 18])) rfl c rfl (by omega) (by decide) dX7_goes_28 ?_
        rw [show (mW I c Y [24, 18] c) = (Y 0 9) from mW_c9 _ _ _]
        rw [show (Y 0 9) = (nI r) from h9]
        refine lv_bipush (v := 20) hx hb dX7_goes_29 (by decide) ?_
        refine lv_icmp_ge (tgt := 103) hx hb dX7_goes_31 (by decide) (fun c_31 => ?_) (fun c_31 => ?_)
        · skip
          have c_31 := (nI_leI (a := 20) (b := r) (by omega) (by omega)).mp c_31
          refine lv_aload_n hx hb dX7_goes_103 rfl (lv_at hl 0 rfl) ?_
          refine lv_iconst (v := (-1)) hx hb dX7_goes_104 (by decide) ?_
          obtain ⟨X4_, hX4_⟩ : ∃ z, z = up2 Y 0 8 (-1) := ⟨_, rfl⟩
          refine x_put (C := RX7) (T := TX7) (N := 24) (ci := 7) hx hb hts iu7 tyX7 tyX7_ok nmX7 hown hK hH hS (id := [20]) (by first | trivial | (simp only [xD]; omega) | (simp [xD]; done) | (simp [xD]; omega)) rfl rfl (by decide) 21 (by decide) (hts _ tw860) (fun _ h9 => h9) (Or.inl rfl) (ty := .int) (v := .int (-1)) (by decide +kernel) rfl rfl (I' := (mW I c X4_)) (F' := (xFh h)) (fun i hi => by rw [show (mW I c X4_) = _ from Eq.symm ((mW_u0_8 _ _ _ _).trans (congrArg (mW I c) hX4_.symm))]; exact up_id hi) (fun _ _ => rfl) (fun j9 => by rw [show (mW I c X4_) = _ from Eq.symm ((mW_u0_8 _ _ _ _).trans (congrArg (mW I c) hX4_.symm)), up_row]; exact xv_upd rfl j9) dX7_goes_105 (fun H locs hH hS => ?_)
          have hfin : sRun (vP I p) (vC I p) (sCn h p) (sSz h p) (up2 X 0 10 (X 0 10 + 1)) = Y := by rw [hYm, show 20 - r = 0 by omega]; rfl
          exact x_vret hx hb hr hlocks hS dX7_goes_108 (by rw [hX4_] at hH; unfold sTail; rw [hfin]; exact hH)
        · skip
          have c_31 : ¬ _ := fun z_ => c_31 ((nI_leI (a := 20) (b := r) (by omega) (by omega)).mpr z_)
          refine lv_iconst (v := 0) hx hb dX7_goes_34 (by decide) ?_
          refine lv_istore_n (lv' := [(2, .int 0), (0, .ref (ga g [20])), (1, .int (nI c))]) hx hb dX7_goes_35 rfl hl (by decide) rfl (fun ls hl => ?_)
          refine lv_iconst (v := 0) hx hb dX7_goes_36 (by decide) ?_
          refine lv_istore_n (lv' := [(3, .int 0), (2, .int 0), (0, .ref (ga g [20])), (1, .int (nI c))]) hx hb dX7_goes_37 rfl hl (by decide) rfl (fun ls hl => ?_)
          have L38 : ∀ (fu : Nat) (i : Nat) (ch : Bool) (Z : xX) (H : Heap) (locs : List Loc) (ls : Array Slot), (i ≤ sSz h p) → (sSwp (vP I p) (vC I p) (sCn h p) (sSz h p) i Y = (ch, Z)) → sSz h p - i < fu → xR g (xD h) (mW I c Z) (xFh h) n H → va_S (gA g) s.heap H locs → lv_has ls 5 [(0, .ref (ga g [20])), (1, .int (nI c)), (2, .int (b01 ch)), (3, .int (nI i))] → W P_ l e_ { frames := 18, cells := 0, slots := 0, locals := 413 } s m_ ([.ref (ga g [20]), .int (nI c)] : List Value).toArray bl_ mt_ cd_ H locs 0 0 (MQ bl_ (xQc g none (xR g (xD h) (mW I c (sTail (vP I p) (vC I p) (sCn h p) (sSz h p) X)) (xFh h) n)) ([.ref (ga g [20]), .int (nI c)] : List Value).toArray s 0 0 (gA g)) (F0 m_ 38 ls []) := by
            intro fu
            induction fu with
            | zero => intro i ch Z H locs ls hi hZ hfu; exact absurd hfu (Nat.not_lt_zero _)
            | succ fu ih38 =>
              intro i ch Z H locs ls hi hZ hfu hH hS hl
              refine lv_iload_n hx hb dX7_goes_38 rfl (lv_at hl 3 rfl) ?_
              refine lv_aload_n hx hb dX7_goes_39 rfl (lv_at hl 0 rfl) ?_
              refine x_get (C := RX7) (T := TX7) (N := 24) (ci := 7) hx hb hts iu7 hown hK hH (id := [20]) (by first | trivial | (simp only [xD]; omega) | (simp [xD]; done) | (simp [xD]; omega)) rfl rfl (by decide) 8 (by decide) (hts _ tw847) (fun _ h9 => h9) rfl (v := .ref (ga g [24, 8])) rfl dX7_goes_40 ?_
              refine lv_aload_n hx hb dX7_goes_43 rfl (lv_at hl 0 rfl) ?_
              refine x_get (C := RX7) (T := TX7) (N := 24) (ci := 7) hx hb hts iu7 hown hK hH (id := [20]) (by first | trivial | (simp only [xD]; omega) | (simp [xD]; done) | (simp [xD]; omega)) rfl rfl (by decide) 11 (by decide) (hts _ tw850) (fun _ h9 => h9) rfl (v := .ref (ga g [24, 11])) rfl dX7_goes_44 ?_
              refine lv_iload_n hx hb dX7_goes_47 rfl (lv_at hl 1 rfl) ?_
              refine x_iald hx hb hK hH (id := [24, 11]) (by first | trivial | (simp only [xD]; omega) | (simp [xD]; done) | (simp [xD]; omega)) (L := 4) rfl (r := (I [24, 11])) rfl c rfl (by omega) (by decide) dX7_goes_48 ?_
              rw [show (I [24, 11] c) = (nI p) from hpo]
              refine x_iald hx hb hK hH (id := [24, 8]) (by first | trivial | (simp only [xD]; omega) | (simp [xD]; done) | (simp [xD]; omega)) (L := 3) rfl (r := (I [24, 8])) rfl p rfl (by omega) (by decide) dX7_goes_49 ?_
              rw [show (I [24, 8] p) = (nI (sSz h p)) from hA.1]
              refine lv_icmp_ge (tgt := 82) hx hb dX7_goes_50 (by decide) (fun c_50 => ?_) (fun c_50 => ?_)
              · skip
                have c_50 := (nI_leI (a := (sSz h p)) (b := i) (by omega) (by omega)).mp c_50
                have hZn : sSwp (vP I p) (vC I p) (sCn h p) (sSz h p) (sSz h p) Y = (ch, Z) := (show i = sSz h p by omega) ▸ hZ
                have h9z : Z 0 9 = nI r := (congrFun ((congrArg (fun q => q.2 0) hZn).symm.trans (sSwp_0 (vP I p) (vC I p) (sCn h p) (sSz h p) Y (sSz h p))) 9).trans h9
                refine lv_aload_n hx hb dX7_goes_82 rfl (lv_at hl 0 rfl) ?_
                refine x_get (C := RX7) (T := TX7) (N := 24) (ci := 7) hx hb hts iu7 hown hK hH (id := [20]) (by first | trivial | (simp only [xD]; omega) | (simp [xD]; done) | (simp [xD]; omega)) rfl rfl (by decide) 18 (by decide) (hts _ tw857) (fun _ h9 => h9) rfl (v := .ref (ga g [24, 18])) rfl dX7_goes_83 ?_
                refine lv_iload_n hx hb dX7_goes_86 rfl (lv_at hl 1 rfl) ?_
                refine lv_dup2_11 hx hb dX7_goes_87 rfl rfl ?_
                refine x_iald hx hb hK hH (id := [24, 18]) (by first | trivial | (simp only [xD]; omega) | (simp [xD]; done) | (simp [xD]; omega)) (L := 4) rfl (r := (mW I c Z [24, 18])) rfl c rfl (by omega) (by decide) dX7_goes_88 ?_
                rw [show (mW I c Z [24, 18] c) = (Z 0 9) from mW_c9 _ _ _]
                refine lv_iload_n hx hb dX7_goes_89 rfl (lv_at hl 2 rfl) ?_
                refine lv_if_eq (tgt := 97) hx hb dX7_goes_90 (by decide) (fun c_90 => ?_) (fun c_90 => ?_)
                · skip
                  have hq0 := (b01_eq0 _).mp c_90
                  subst hq0
                  refine lv_iconst (v := 0) hx hb dX7_goes_97 (by decide) ?_
                  refine lv_iadd hx hb dX7_goes_98 ?_
                  obtain ⟨X5_, hX5_⟩ : ∃ z, z = up2 Z 0 9 ((Z 0 9) + 0) := ⟨_, rfl⟩
                  refine x_iast hx hb hK hH hS (id := [24, 18]) (by first | trivial | (simp only [xD]; omega) | (simp [xD]; done) | (simp [xD]; omega)) (L := 4) rfl c rfl (by omega) (by decide) ((mW_u0_9 _ _ _ _).trans (congrArg (mW I c) hX5_.symm)) dX7_goes_99 (fun H locs hH hS => ?_)
                  refine lv_goto (tgt := 19) hx hb dX7_goes_100 (by decide) ?_
                  exact ih19 r 0 X5_ _ _ _ (by omega) (by omega) (by rw [hX5_, up2_at, h9z]; exact Int32.add_zero _) (by rw [if_neg (by decide), hYm, sRnd_stop (by omega) hZn, hX5_, h9z, Int32.add_zero, ← h9z, up2_self]) (by omega) hH hS (lv_sub hl [0, 1, 2] rfl)
                · skip
                  have hq0 := b01_ne0 c_90
                  subst hq0
                  refine lv_iconst (v := 1) hx hb dX7_goes_93 (by decide) ?_
                  refine lv_goto (tgt := 98) hx hb dX7_goes_94 (by decide) ?_
                  refine lv_iadd hx hb dX7_goes_98 ?_
                  obtain ⟨X6_, hX6_⟩ : ∃ z, z = up2 Z 0 9 ((Z 0 9) + 1) := ⟨_, rfl⟩
                  refine x_iast hx hb hK hH hS (id := [24, 18]) (by first | trivial | (simp only [xD]; omega) | (simp [xD]; done) | (simp [xD]; omega)) (L := 4) rfl c rfl (by omega) (by decide) ((mW_u0_9 _ _ _ _).trans (congrArg (mW I c) hX6_.symm)) dX7_goes_99 (fun H locs hH hS => ?_)
                  refine lv_goto (tgt := 19) hx hb dX7_goes_100 (by decide) ?_
                  exact ih19 (r + 1) 1 X6_ _ _ _ (by omega) (by omega) (by rw [hX6_, up2_at, h9z]; exact nI_1 r) (by rw [if_pos rfl, hYm, sRnd_go (by omega) hZn, hX6_, h9z, show 20 - r - 1 = 20 - (r + 1) by omega, nI_1]) (by omega) hH hS (lv_sub hl [0, 1, 2] rfl)
              · skip
                have c_50 : ¬ _ := fun z_ => c_50 ((nI_leI (a := (sSz h p)) (b := i) (by omega) (by omega)).mpr z_)
                refine lv_aload_n hx hb dX7_goes_53 rfl (lv_at hl 0 rfl) ?_
                refine lv_iload_n hx hb dX7_goes_54 rfl (lv_at hl 1 rfl) ?_
                refine lv_iload_n hx hb dX7_goes_55 rfl (lv_at hl 3 rfl) ?_
                refine x_V1 hx hb hml hown hE hS hl.1 cyX7_looks tw988 (c_X7_looks l g h I n c Z hc p hpp hpo hA hW i (by omega)) ⟨Nat.le_of_ble_eq_true rfl, Nat.le_of_ble_eq_true rfl⟩ ⟨Nat.le_of_ble_eq_true rfl, Nat.le_of_ble_eq_true rfl⟩ (x_recv hK hH (id := [20]) (by first | trivial | (simp only [xD]; omega) | (simp [xD]; done) | (simp [xD]; omega)) (ci := 7) rfl (by decide) rfl) hH rfl rfl (Nat.le_of_ble_eq_true rfl) dX7_goes_56 (fun H locs hH hS => ?_)
                refine lv_istore (lv' := [(4, .int (b01 (sRul (vP I p) (vC I p) (sCn h p) (sSz h p) Z i).1)), (0, .ref (ga g [20])), (1, .int (nI c)), (2, .int (b01 ch)), (3, .int (nI i))]) hx hb dX7_goes_59 hl (by decide) rfl (fun ls hl => ?_)
                refine lv_iload_n hx hb dX7_goes_61 rfl (lv_at hl 3 rfl) ?_
                refine lv_if_ne (tgt := 70) hx hb dX7_goes_62 (by decide) (fun c_62 => ?_) (fun c_62 => ?_)
                · skip
                  refine lv_iconst (v := 1) hx hb dX7_goes_70 (by decide) ?_
                  refine lv_goto (tgt := 75) hx hb dX7_goes_71 (by decide) ?_
                  refine lv_istore_n (lv' := [(2, .int 1), (4, .int (b01 (sRul (vP I p) (vC I p) (sCn h p) (sSz h p) Z i).1)), (0, .ref (ga g [20])), (1, .int (nI c)), (3, .int (nI i))]) hx hb dX7_goes_75 rfl hl (by decide) rfl (fun ls hl => ?_)
                  refine lv_iinc (v := (nI (i + 1))) (lv' := [(3, .int (nI (i + 1))), (2, .int 1), (4, .int (b01 (sRul (vP I p) (vC I p) (sCn h p) (sSz h p) Z i).1)), (0, .ref (ga g [20])), (1, .int (nI c))]) hx hb dX7_goes_76 hl (k := 4) rfl (by first | rfl | exact nI_1 _ | exact nI_add _ _) (by decide) rfl (fun ls hl => ?_)
                  refine lv_goto (tgt := 38) hx hb dX7_goes_79 (by decide) ?_
                  exact ih38 (i + 1) true ((sRul (vP I p) (vC I p) (sCn h p) (sSz h p) Z i).2) _ _ _ (by omega) (by rw [sSwp_s hZ, b01_ne0 c_62]; rfl) (by omega) hH hS (lv_sub hl [3, 4, 1, 0] rfl)
                · skip
                  refine lv_iload hx hb dX7_goes_65 (lv_at hl 0 rfl) ?_
                  refine lv_if_eq (tgt := 74) hx hb dX7_goes_67 (by decide) (fun c_67 => ?_) (fun c_67 => ?_)
                  · skip
                    refine lv_iconst (v := 0) hx hb dX7_goes_74 (by decide) ?_
                    refine lv_istore_n (lv' := [(2, .int 0), (4, .int (b01 (sRul (vP I p) (vC I p) (sCn h p) (sSz h p) Z i).1)), (0, .ref (ga g [20])), (1, .int (nI c)), (3, .int (nI i))]) hx hb dX7_goes_75 rfl hl (by decide) rfl (fun ls hl => ?_)
                    refine lv_iinc (v := (nI (i + 1))) (lv' := [(3, .int (nI (i + 1))), (2, .int 0), (4, .int (b01 (sRul (vP I p) (vC I p) (sCn h p) (sSz h p) Z i).1)), (0, .ref (ga g [20])), (1, .int (nI c))]) hx hb dX7_goes_76 hl (k := 4) rfl (by first | rfl | exact nI_1 _ | exact nI_add _ _) (by decide) rfl (fun ls hl => ?_)
                    refine lv_goto (tgt := 38) hx hb dX7_goes_79 (by decide) ?_
                    exact ih38 (i + 1) false ((sRul (vP I p) (vC I p) (sCn h p) (sSz h p) Z i).2) _ _ _ (by omega) (by rw [sSwp_s hZ, (b01_eq0 _).mp c_62, (b01_eq0 _).mp c_67]; rfl) (by omega) hH hS (lv_sub hl [3, 4, 1, 0] rfl)
                  · skip
                    refine lv_iconst (v := 1) hx hb dX7_goes_70 (by decide) ?_
                    refine lv_goto (tgt := 75) hx hb dX7_goes_71 (by decide) ?_
                    refine lv_istore_n (lv' := [(2, .int 1), (4, .int (b01 (sRul (vP I p) (vC I p) (sCn h p) (sSz h p) Z i).1)), (0, .ref (ga g [20])), (1, .int (nI c)), (3, .int (nI i))]) hx hb dX7_goes_75 rfl hl (by decide) rfl (fun ls hl => ?_)
                    refine lv_iinc (v := (nI (i + 1))) (lv' := [(3, .int (nI (i + 1))), (2, .int 1), (4, .int (b01 (sRul (vP I p) (vC I p) (sCn h p) (sSz h p) Z i).1)), (0, .ref (ga g [20])), (1, .int (nI c))]) hx hb dX7_goes_76 hl (k := 4) rfl (by first | rfl | exact nI_1 _ | exact nI_add _ _) (by decide) rfl (fun ls hl => ?_)
                    refine lv_goto (tgt := 38) hx hb dX7_goes_79 (by decide) ?_
                    exact ih38 (i + 1) true ((sRul (vP I p) (vC I p) (sCn h p) (sSz h p) Z i).2) _ _ _ (by omega) (by rw [sSwp_s hZ, b01_ne0 c_67, Bool.or_true]) (by omega) hH hS (lv_sub hl [3, 4, 1, 0] rfl)
          exact L38 _ 0 false Y _ _ _ (Nat.zero_le _) rfl (Nat.lt_succ_self _) hH hS (lv_sub hl [2, 3, 1, 0] rfl)
  exact L19 _ 0 1 X2_ _ _ _ (by omega) (by omega) (by rw [hX2_, up2_at]; rfl) (by rw [hX2_, hX1_]; rfl) (Nat.lt_succ_self _) hH hS (lv_sub hl [1, 2, 0] rfl)
