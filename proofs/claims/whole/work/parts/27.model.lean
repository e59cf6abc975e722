/-! CONTRACTS: the model -/
set_option maxHeartbeats 1000000 in
set_option maxRecDepth 100000 in
theorem c_X7_holdsNow (l : Launch) (g : xG) (h : xS) (I : xI) (n c : Nat) (X : xX) (hc : c < 4) (p : Nat) (hpp : p < 3) (hpo : I [24, 11] c = nI p) (hA : mA h I p) (hW : xWp h I p) (j : Nat) (hj : j < sSz h p) (w k : Nat) (hw : w < 2) (hk : k < sCn h p j w)  : xM l yX7_holdsNow (xws yX7_holdsNow cX7_holdsNow 6 (some FieldType.boolean)) 1 12 g [.ref (ga g [20]), .int (nI c), .int (nI j), .int (nI (3 * w + k))] (xR g (xD h) (mW I c X) (xFh h) n) (some (.int (b01 (sMet (I [10, p, j, w, k]) X)))) (xR g (xD h) (mW I c X) (xFh h) n) 0 0 := by
  refine xM.of (by decide) (Nat.le_of_ble_eq_true rfl) ?_
  intro P_ e_ s m_ bl_ mt_ cd_ ls hx hb hr hown hlocks hml hnm hE hK hts hH hS hl
  have hl : lv_has ls 6 [(0, .ref (ga g [20])), (1, .int (nI c)), (2, .int (nI j)), (3, .int (nI (3 * w + k)))] := hl
  have h8 := hW.1
  have h3 := ((hW.2.2.2 j hj).2.2 w hw).2.1
  have hs := (hA.2 j hj).2.2.2.2.2 w hw
  have hq := hs.2 k hk
  rcases ((hW.2.2.2 j hj).2.2 w hw).2.2 k hk with ⟨h0 | h0, a, ha, h1⟩ | h0 | ⟨h0, a, ha, h1⟩ | h0
  · skip
    have hcl : (I [10, p, j, w, k] 1).toNatClampNeg = a := by rw [h1]; exact nI_clamp (by omega)
    refine lv_aload_n hx hb dX7_holdsNow_0 rfl (lv_at hl 0 rfl) ?_
    refine x_get (C := RX7) (T := TX7) (N := 24) (ci := 7) hx hb hts iu7 hown hK hH (id := [20]) (by first | trivial | (simp only [xD]; omega) | (simp [xD]; done) | (simp [xD]; omega)) rfl rfl (by decide) 11 (by decide) (hts _ tw850) (fun _ h9 => h9) rfl (v := .ref (ga g [24, 11])) rfl dX7_holdsNow_1 ?_
    refine lv_iload_n hx hb dX7_holdsNow_4 rfl (lv_at hl 1 rfl) ?_
    refine x_iald hx hb hK hH (id := [24, 11]) (by first | trivial | (simp only [xD]; omega) | (simp [xD]; done) | (simp [xD]; omega)) (L := 4) rfl (r := (I [24, 11])) rfl c rfl (by omega) (by decide) dX7_holdsNow_5 ?_
    rw [show (I [24, 11] c) = (nI p) from hpo]
    refine lv_istore (lv' := [(4, .int (nI p)), (0, .ref (ga g [20])), (1, .int (nI c)), (2, .int (nI j)), (3, .int (nI (3 * w + k)))]) hx hb dX7_holdsNow_6 hl (by decide) rfl (fun ls hl => ?_)
    refine lv_aload_n hx hb dX7_holdsNow_8 rfl (lv_at hl 1 rfl) ?_
    refine x_get (C := RX7) (T := TX7) (N := 24) (ci := 7) hx hb hts iu7 hown hK hH (id := [20]) (by first | trivial | (simp only [xD]; omega) | (simp [xD]; done) | (simp [xD]; omega)) rfl rfl (by decide) 5 (by decide) (hts _ tw844) (fun _ h9 => h9) rfl (v := .ref (ga g [21, 5])) rfl dX7_holdsNow_9 ?_
    refine lv_iload hx hb dX7_holdsNow_12 (lv_at hl 0 rfl) ?_
    refine x_aald hx hb hK hH (id := [21, 5]) (by first | trivial | (simp only [xD]; omega) | (simp [xD]; done) | (simp [xD]; omega)) 10 (L := 3) rfl (by decide) p rfl (by omega) (by decide) (v := .ref (ga g [22, 5, p])) (by show rq _ (if _ then _ else _) = _; rw [if_pos (show p < xLn 5 by show _ < 3; omega)]; rfl) dX7_holdsNow_14 ?_
    refine lv_iload_n hx hb dX7_holdsNow_15 rfl (lv_at hl 3 rfl) ?_
    refine x_aald hx hb hK hH (id := [22, 5, p]) (by first | trivial | (simp only [xD]; omega) | (simp [xD]; done) | (simp [xD]; omega)) 7 (L := 8) rfl (by decide) j rfl (by omega) (by decide) (v := .ref (ga g [23, 5, p, j])) (by show rq _ (if _ then _ else _) = _; rw [if_pos (by omega)]; rfl) dX7_holdsNow_16 ?_
    refine lv_iload_n hx hb dX7_holdsNow_17 rfl (lv_at hl 4 rfl) ?_
    refine x_iald hx hb hK hH (id := [23, 5, p, j]) (by first | trivial | (simp only [xD]; omega) | (simp [xD]; done) | (simp [xD]; omega)) (L := 6) rfl (r := (I [23, 5, p, j])) rfl ((3 * w + k)) rfl (by omega) (by decide) dX7_holdsNow_18 ?_
    rw [show (I [23, 5, p, j] (3 * w + k)) = (nI a) from (hq.2.1.trans h1)]
    refine lv_istore (lv' := [(5, .int (nI a)), (4, .int (nI p)), (0, .ref (ga g [20])), (1, .int (nI c)), (2, .int (nI j)), (3, .int (nI (3 * w + k)))]) hx hb dX7_holdsNow_19 hl (by decide) rfl (fun ls hl => ?_)
    refine lv_aload_n hx hb dX7_holdsNow_21 rfl (lv_at hl 2 rfl) ?_
    refine x_get (C := RX7) (T := TX7) (N := 24) (ci := 7) hx hb hts iu7 hown hK hH (id := [20]) (by first | trivial | (simp only [xD]; omega) | (simp [xD]; done) | (simp [xD]; omega)) rfl rfl (by decide) 4 (by decide) (hts _ tw843) (fun _ h9 => h9) rfl (v := .ref (ga g [21, 4])) rfl dX7_holdsNow_22 ?_
    refine lv_iload hx hb dX7_holdsNow_25 (lv_at hl 1 rfl) ?_
    refine x_aald hx hb hK hH (id := [21, 4]) (by first | trivial | (simp only [xD]; omega) | (simp [xD]; done) | (simp [xD]; omega)) 11 (L := 3) rfl (by decide) p rfl (by omega) (by decide) (v := .ref (ga g [22, 4, p])) (by show rq _ (if _ then _ else _) = _; rw [if_pos (show p < xLn 4 by show _ < 3; omega)]; rfl) dX7_holdsNow_27 ?_
    refine lv_iload_n hx hb dX7_holdsNow_28 rfl (lv_at hl 4 rfl) ?_
    refine x_aald hx hb hK hH (id := [22, 4, p]) (by first | trivial | (simp only [xD]; omega) | (simp [xD]; done) | (simp [xD]; omega)) 8 (L := 8) rfl (by decide) j rfl (by omega) (by decide) (v := .ref (ga g [23, 4, p, j])) (by show rq _ (if _ then _ else _) = _; rw [if_pos (by omega)]; rfl) dX7_holdsNow_29 ?_
    refine lv_iload_n hx hb dX7_holdsNow_30 rfl (lv_at hl 5 rfl) ?_
    refine x_cald hx hb hK hH (id := [23, 4, p, j]) (by first | trivial | (simp only [xD]; omega) | (simp [xD]; done) | (simp [xD]; omega)) (L := 6) rfl (r := (I [23, 4, p, j])) rfl ((3 * w + k)) rfl (by omega) (by decide) dX7_holdsNow_31 ?_
    rw [show (I [23, 4, p, j] (3 * w + k)) = 100 from (hq.1.trans h0)]
    refine lv_tableIn (tgt := 88) hx hb dX7_holdsNow_32 (by decide) (by decide) rfl (by decide) ?_
    refine lv_aload_n hx hb dX7_holdsNow_88 rfl (lv_at hl 2 rfl) ?_
    refine x_get (C := RX7) (T := TX7) (N := 24) (ci := 7) hx hb hts iu7 hown hK hH (id := [20]) (by first | trivial | (simp only [xD]; omega) | (simp [xD]; done) | (simp [xD]; omega)) rfl rfl (by decide) 12 (by decide) (hts _ tw851) (fun _ h9 => h9) rfl (v := .ref (ga g [21, 12])) rfl dX7_holdsNow_89 ?_
    refine lv_iload_n hx hb dX7_holdsNow_92 rfl (lv_at hl 3 rfl) ?_
    refine x_aald hx hb hK hH (id := [21, 12]) (by first | trivial | (simp only [xD]; omega) | (simp [xD]; done) | (simp [xD]; omega)) 7 (L := 4) rfl (by decide) c rfl (by omega) (by decide) (v := .ref (ga g [22, 12, c])) (by show rq _ (if _ then _ else _) = _; rw [if_pos (show c < xLn 12 by show _ < 4; omega)]; rfl) dX7_holdsNow_93 ?_
    refine lv_iload hx hb dX7_holdsNow_94 (lv_at hl 0 rfl) ?_
    refine x_iald hx hb hK hH (id := [22, 12, c]) (by first | trivial | (simp only [xD]; omega) | (simp [xD]; done) | (simp [xD]; omega)) (L := 4) rfl (r := (X 1)) (mW_r1 _ _ _) a rfl (by omega) (by decide) dX7_holdsNow_96 ?_
    refine lv_aload_n hx hb dX7_holdsNow_97 rfl (lv_at hl 2 rfl) ?_
    refine x_get (C := RX7) (T := TX7) (N := 24) (ci := 7) hx hb hts iu7 hown hK hH (id := [20]) (by first | trivial | (simp only [xD]; omega) | (simp [xD]; done) | (simp [xD]; omega)) rfl rfl (by decide) 6 (by decide) (hts _ tw845) (fun _ h9 => h9) rfl (v := .ref (ga g [21, 6])) rfl dX7_holdsNow_98 ?_
    refine lv_iload hx hb dX7_holdsNow_101 (lv_at hl 1 rfl) ?_
    refine x_aald hx hb hK hH (id := [21, 6]) (by first | trivial | (simp only [xD]; omega) | (simp [xD]; done) | (simp [xD]; omega)) 10 (L := 3) rfl (by decide) p rfl (by omega) (by decide) (v := .ref (ga g [22, 6, p])) (by show rq _ (if _ then _ else _) = _; rw [if_pos (show p < xLn 6 by show _ < 3; omega)]; rfl) dX7_holdsNow_103 ?_
    refine lv_iload_n hx hb dX7_holdsNow_104 rfl (lv_at hl 4 rfl) ?_
    refine x_aald hx hb hK hH (id := [22, 6, p]) (by first | trivial | (simp only [xD]; omega) | (simp [xD]; done) | (simp [xD]; omega)) 7 (L := 8) rfl (by decide) j rfl (by omega) (by decide) (v := .ref (ga g [23, 6, p, j])) (by show rq _ (if _ then _ else _) = _; rw [if_pos (by omega)]; rfl) dX7_holdsNow_105 ?_
    refine lv_iload_n hx hb dX7_holdsNow_106 rfl (lv_at hl 5 rfl) ?_
    refine x_iald hx hb hK hH (id := [23, 6, p, j]) (by first | trivial | (simp only [xD]; omega) | (simp [xD]; done) | (simp [xD]; omega)) (L := 6) rfl (r := (I [23, 6, p, j])) rfl ((3 * w + k)) rfl (by omega) (by decide) dX7_holdsNow_107 ?_
    rw [show (I [23, 6, p, j] (3 * w + k)) = (I [10, p, j, w, k] 2) from hq.2.2]
    refine lv_icmp_lt (tgt := 115) hx hb dX7_holdsNow_108 (by decide) (fun c_108 => ?_) (fun c_108 => ?_)
    · skip
      refine lv_iconst (v := 0) hx hb dX7_holdsNow_115 (by decide) ?_
      exact x_zret hx hb hr hlocks hS dX7_holdsNow_116 rfl (b01_f (by rw [(sMet_d h0), hcl]; exact decide_eq_false (i_lt_nle c_108))) hH
    · skip
      refine lv_iconst (v := 1) hx hb dX7_holdsNow_111 (by decide) ?_
      refine lv_goto (tgt := 116) hx hb dX7_holdsNow_112 (by decide) ?_
      exact x_zret hx hb hr hlocks hS dX7_holdsNow_116 rfl (b01_t (by rw [(sMet_d h0), hcl]; exact decide_eq_true (i_nlt c_108))) hH
  · skip
    have hcl : (I [10, p, j, w, k] 1).toNatClampNeg = a := by rw [h1]; exact nI_clamp (by omega)
    refine lv_aload_n hx hb dX7_holdsNow_0 rfl (lv_at hl 0 rfl) ?_
    refine x_get (C := RX7) (T := TX7) (N := 24) (ci := 7) hx hb hts iu7 hown hK hH (id := [20]) (by first | trivial | (simp only [xD]; omega) | (simp [xD]; done) | (simp [xD]; omega)) rfl rfl (by decide) 11 (by decide) (hts _ tw850) (fun _ h9 => h9) rfl (v := .ref (ga g [24, 11])) rfl dX7_holdsNow_1 ?_
    refine lv_iload_n hx hb dX7_holdsNow_4 rfl (lv_at hl 1 rfl) ?_
    refine x_iald hx hb hK hH (id := [24, 11]) (by first | trivial | (simp only [xD]; omega) | (simp [xD]; done) | (simp [xD]; omega)) (L := 4) rfl (r := (I [24, 11])) rfl c rfl (by omega) (by decide) dX7_holdsNow_5 ?_
    rw [show (I [24, 11] c) = (nI p) from hpo]
    refine lv_istore (lv' := [(4, .int (nI p)), (0, .ref (ga g [20])), (1, .int (nI c)), (2, .int (nI j)), (3, .int (nI (3 * w + k)))]) hx hb dX7_holdsNow_6 hl (by decide) rfl (fun ls hl => ?_)
    refine lv_aload_n hx hb dX7_holdsNow_8 rfl (lv_at hl 1 rfl) ?_
    refine x_get (C := RX7) (T := TX7) (N := 24) (ci := 7) hx hb hts iu7 hown hK hH (id := [20]) (by first | trivial | (simp only [xD]; omega) | (simp [xD]; done) | (simp [xD]; omega)) rfl rfl (by decide) 5 (by decide) (hts _ tw844) (fun _ h9 => h9) rfl (v := .ref (ga g [21, 5])) rfl dX7_holdsNow_9 ?_
    refine lv_iload hx hb dX7_holdsNow_12 (lv_at hl 0 rfl) ?_
    refine x_aald hx hb hK hH (id := [21, 5]) (by first | trivial | (simp only [xD]; omega) | (simp [xD]; done) | (simp [xD]; omega)) 10 (L := 3) rfl (by decide) p rfl (by omega) (by decide) (v := .ref (ga g [22, 5, p])) (by show rq _ (if _ then _ else _) = _; rw [if_pos (show p < xLn 5 by show _ < 3; omega)]; rfl) dX7_holdsNow_14 ?_
    refine lv_iload_n hx hb dX7_holdsNow_15 rfl (lv_at hl 3 rfl) ?_
    refine x_aald hx hb hK hH (id := [22, 5, p]) (by first | trivial | (simp only [xD]; omega) | (simp [xD]; done) | (simp [xD]; omega)) 7 (L := 8) rfl (by decide) j rfl (by omega) (by decide) (v := .ref (ga g [23, 5, p, j])) (by show rq _ (if _ then _ else _) = _; rw [if_pos (by omega)]; rfl) dX7_holdsNow_16 ?_
    refine lv_iload_n hx hb dX7_holdsNow_17 rfl (lv_at hl 4 rfl) ?_
    refine x_iald hx hb hK hH (id := [23, 5, p, j]) (by first | trivial | (simp only [xD]; omega) | (simp [xD]; done) | (simp [xD]; omega)) (L := 6) rfl (r := (I [23, 5, p, j])) rfl ((3 * w + k)) rfl (by omega) (by decide) dX7_holdsNow_18 ?_
    rw [show (I [23, 5, p, j] (3 * w + k)) = (nI a) from (hq.2.1.trans h1)]
    refine lv_istore (lv' := [(5, .int (nI a)), (4, .int (nI p)), (0, .ref (ga g [20])), (1, .int (nI c)), (2, .int (nI j)), (3, .int (nI (3 * w + k)))]) hx hb dX7_holdsNow_19 hl (by decide) rfl (fun ls hl => ?_)
    refine lv_aload_n hx hb dX7_holdsNow_21 rfl (lv_at hl 2 rfl) ?_
    refine x_get (C := RX7) (T := TX7) (N := 24) (ci := 7) hx hb hts iu7 hown hK hH (id := [20]) (by first | trivial | (simp only [xD]; omega) | (simp [xD]; done) | (simp [xD]; omega)) rfl rfl (by decide) 4 (by decide) (hts _ tw843) (fun _ h9 => h9) rfl (v := .ref (ga g [21, 4])) rfl dX7_holdsNow_22 ?_
    refine lv_iload hx hb dX7_holdsNow_25 (lv_at hl 1 rfl) ?_
    refine x_aald hx hb hK hH (id := [21, 4]) (by first | trivial | (simp only [xD]; omega) | (simp [xD]; done) | (simp [xD]; omega)) 11 (L := 3) rfl (by decide) p rfl (by omega) (by decide) (v := .ref (ga g [22, 4, p])) (by show rq _ (if _ then _ else _) = _; rw [if_pos (show p < xLn 4 by show _ < 3; omega)]; rfl) dX7_holdsNow_27 ?_
    refine lv_iload_n hx hb dX7_holdsNow_28 rfl (lv_at hl 4 rfl) ?_
    refine x_aald hx hb hK hH (id := [22, 4, p]) (by first | trivial | (simp only [xD]; omega) | (simp [xD]; done) | (simp [xD]; omega)) 8 (L := 8) rfl (by decide) j rfl (by omega) (by decide) (v := .ref (ga g [23, 4, p, j])) (by show rq _ (if _ then _ else _) = _; rw [if_pos (by omega)]; rfl) dX7_holdsNow_29 ?_
    refine lv_iload_n hx hb dX7_holdsNow_30 rfl (lv_at hl 5 rfl) ?_
    refine x_cald hx hb hK hH (id := [23, 4, p, j]) (by first | trivial | (simp only [xD]; omega) | (simp [xD]; done) | (simp [xD]; omega)) (L := 6) rfl (r := (I [23, 4, p, j])) rfl ((3 * w + k)) rfl (by omega) (by decide) dX7_holdsNow_31 ?_
    rw [show (I [23, 4, p, j] (3 * w + k)) = 108 from (hq.1.trans h0)]
    refine lv_tableIn (tgt := 117) hx hb dX7_holdsNow_32 (by decide) (by decide) rfl (by decide) ?_
    refine lv_aload_n hx hb dX7_holdsNow_117 rfl (lv_at hl 2 rfl) ?_
    refine x_get (C := RX7) (T := TX7) (N := 24) (ci := 7) hx hb hts iu7 hown hK hH (id := [20]) (by first | trivial | (simp only [xD]; omega) | (simp [xD]; done) | (simp [xD]; omega)) rfl rfl (by decide) 12 (by decide) (hts _ tw851) (fun _ h9 => h9) rfl (v := .ref (ga g [21, 12])) rfl dX7_holdsNow_118 ?_
    refine lv_iload_n hx hb dX7_holdsNow_121 rfl (lv_at hl 3 rfl) ?_
    refine x_aald hx hb hK hH (id := [21, 12]) (by first | trivial | (simp only [xD]; omega) | (simp [xD]; done) | (simp [xD]; omega)) 7 (L := 4) rfl (by decide) c rfl (by omega) (by decide) (v := .ref (ga g [22, 12, c])) (by show rq _ (if _ then _ else _) = _; rw [if_pos (show c < xLn 12 by show _ < 4; omega)]; rfl) dX7_holdsNow_122 ?_
    refine lv_iload hx hb dX7_holdsNow_123 (lv_at hl 0 rfl) ?_
    refine x_iald hx hb hK hH (id := [22, 12, c]) (by first | trivial | (simp only [xD]; omega) | (simp [xD]; done) | (simp [xD]; omega)) (L := 4) rfl (r := (X 1)) (mW_r1 _ _ _) a rfl (by omega) (by decide) dX7_holdsNow_125 ?_
    refine lv_aload_n hx hb dX7_holdsNow_126 rfl (lv_at hl 2 rfl) ?_
    refine x_get (C := RX7) (T := TX7) (N := 24) (ci := 7) hx hb hts iu7 hown hK hH (id := [20]) (by first | trivial | (simp only [xD]; omega) | (simp [xD]; done) | (simp [xD]; omega)) rfl rfl (by decide) 6 (by decide) (hts _ tw845) (fun _ h9 => h9) rfl (v := .ref (ga g [21, 6])) rfl dX7_holdsNow_127 ?_
    refine lv_iload hx hb dX7_holdsNow_130 (lv_at hl 1 rfl) ?_
    refine x_aald hx hb hK hH (id := [21, 6]) (by first | trivial | (simp only [xD]; omega) | (simp [xD]; done) | (simp [xD]; omega)) 10 (L := 3) rfl (by decide) p rfl (by omega) (by decide) (v := .ref (ga g [22, 6, p])) (by show rq _ (if _ then _ else _) = _; rw [if_pos (show p < xLn 6 by show _ < 3; omega)]; rfl) dX7_holdsNow_132 ?_
    refine lv_iload_n hx hb dX7_holdsNow_133 rfl (lv_at hl 4 rfl) ?_
    refine x_aald hx hb hK hH (id := [22, 6, p]) (by first | trivial | (simp only [xD]; omega) | (simp [xD]; done) | (simp [xD]; omega)) 7 (L := 8) rfl (by decide) j rfl (by omega) (by decide) (v := .ref (ga g [23, 6, p, j])) (by show rq _ (if _ then _ else _) = _; rw [if_pos (by omega)]; rfl) dX7_holdsNow_134 ?_
    refine lv_iload_n hx hb dX7_holdsNow_135 rfl (lv_at hl 5 rfl) ?_
    refine x_iald hx hb hK hH (id := [23, 6, p, j]) (by first | trivial | (simp only [xD]; omega) | (simp [xD]; done) | (simp [xD]; omega)) (L := 6) rfl (r := (I [23, 6, p, j])) rfl ((3 * w + k)) rfl (by omega) (by decide) dX7_holdsNow_136 ?_
    rw [show (I [23, 6, p, j] (3 * w + k)) = (I [10, p, j, w, k] 2) from hq.2.2]
    refine lv_icmp_ge (tgt := 144) hx hb dX7_holdsNow_137 (by decide) (fun c_137 => ?_) (fun c_137 => ?_)
    · skip
      refine lv_iconst (v := 0) hx hb dX7_holdsNow_144 (by decide) ?_
      exact x_zret hx hb hr hlocks hS dX7_holdsNow_145 rfl (b01_f (by rw [(sMet_l h0), hcl]; exact decide_eq_false (i_ge c_137))) hH
    · skip
      refine lv_iconst (v := 1) hx hb dX7_holdsNow_140 (by decide) ?_
      refine lv_goto (tgt := 145) hx hb dX7_holdsNow_141 (by decide) ?_
      exact x_zret hx hb hr hlocks hS dX7_holdsNow_145 rfl (b01_t (by rw [(sMet_l h0), hcl]; exact decide_eq_true (i_nle (fun z_ => c_137 z_)))) hH
  · skip
    refine lv_aload_n hx hb dX7_holdsNow_0 rfl (lv_at hl 0 rfl) ?_
    refine x_get (C := RX7) (T := TX7) (N := 24) (ci := 7) hx hb hts iu7 hown hK hH (id := [20]) (by first | trivial | (simp only [xD]; omega) | (simp [xD]; done) | (simp [xD]; omega)) rfl rfl (by decide) 11 (by decide) (hts _ tw850) (fun _ h9 => h9) rfl (v := .ref (ga g [24, 11])) rfl dX7_holdsNow_1 ?_
    refine lv_iload_n hx hb dX7_holdsNow_4 rfl (lv_at hl 1 rfl) ?_
    refine x_iald hx hb hK hH (id := [24, 11]) (by first | trivial | (simp only [xD]; omega) | (simp [xD]; done) | (simp [xD]; omega)) (L := 4) rfl (r := (I [24, 11])) rfl c rfl (by omega) (by decide) dX7_holdsNow_5 ?_
    rw [show (I [24, 11] c) = (nI p) from hpo]
    refine lv_istore (lv' := [(4, .int (nI p)), (0, .ref (ga g [20])), (1, .int (nI c)), (2, .int (nI j)), (3, .int (nI (3 * w + k)))]) hx hb dX7_holdsNow_6 hl (by decide) rfl (fun ls hl => ?_)
    refine lv_aload_n hx hb dX7_holdsNow_8 rfl (lv_at hl 1 rfl) ?_
    refine x_get (C := RX7) (T := TX7) (N := 24) (ci := 7) hx hb hts iu7 hown hK hH (id := [20]) (by first | trivial | (simp only [xD]; omega) | (simp [xD]; done) | (simp [xD]; omega)) rfl rfl (by decide) 5 (by decide) (hts _ tw844) (fun _ h9 => h9) rfl (v := .ref (ga g [21, 5])) rfl dX7_holdsNow_9 ?_
    refine lv_iload hx hb dX7_holdsNow_12 (lv_at hl 0 rfl) ?_
    refine x_aald hx hb hK hH (id := [21, 5]) (by first | trivial | (simp only [xD]; omega) | (simp [xD]; done) | (simp [xD]; omega)) 10 (L := 3) rfl (by decide) p rfl (by omega) (by decide) (v := .ref (ga g [22, 5, p])) (by show rq _ (if _ then _ else _) = _; rw [if_pos (show p < xLn 5 by show _ < 3; omega)]; rfl) dX7_holdsNow_14 ?_
    refine lv_iload_n hx hb dX7_holdsNow_15 rfl (lv_at hl 3 rfl) ?_
    refine x_aald hx hb hK hH (id := [22, 5, p]) (by first | trivial | (simp only [xD]; omega) | (simp [xD]; done) | (simp [xD]; omega)) 7 (L := 8) rfl (by decide) j rfl (by omega) (by decide) (v := .ref (ga g [23, 5, p, j])) (by show rq _ (if _ then _ else _) = _; rw [if_pos (by omega)]; rfl) dX7_holdsNow_16 ?_
    refine lv_iload_n hx hb dX7_holdsNow_17 rfl (lv_at hl 4 rfl) ?_
    refine x_iald hx hb hK hH (id := [23, 5, p, j]) (by first | trivial | (simp only [xD]; omega) | (simp [xD]; done) | (simp [xD]; omega)) (L := 6) rfl (r := (I [23, 5, p, j])) rfl ((3 * w + k)) rfl (by omega) (by decide) dX7_holdsNow_18 ?_
    rw [show (I [23, 5, p, j] (3 * w + k)) = (I [10, p, j, w, k] 1) from hq.2.1]
    refine lv_istore (lv' := [(5, .int (I [10, p, j, w, k] 1)), (4, .int (nI p)), (0, .ref (ga g [20])), (1, .int (nI c)), (2, .int (nI j)), (3, .int (nI (3 * w + k)))]) hx hb dX7_holdsNow_19 hl (by decide) rfl (fun ls hl => ?_)
    refine lv_aload_n hx hb dX7_holdsNow_21 rfl (lv_at hl 2 rfl) ?_
    refine x_get (C := RX7) (T := TX7) (N := 24) (ci := 7) hx hb hts iu7 hown hK hH (id := [20]) (by first | trivial | (simp only [xD]; omega) | (simp [xD]; done) | (simp [xD]; omega)) rfl rfl (by decide) 4 (by decide) (hts _ tw843) (fun _ h9 => h9) rfl (v := .ref (ga g [21, 4])) rfl dX7_holdsNow_22 ?_
    refine lv_iload hx hb dX7_holdsNow_25 (lv_at hl 1 rfl) ?_
    refine x_aald hx hb hK hH (id := [21, 4]) (by first | trivial | (simp only [xD]; omega) | (simp [xD]; done) | (simp [xD]; omega)) 11 (L := 3) rfl (by decide) p rfl (by omega) (by decide) (v := .ref (ga g [22, 4, p])) (by show rq _ (if _ then _ else _) = _; rw [if_pos (show p < xLn 4 by show _ < 3; omega)]; rfl) dX7_holdsNow_27 ?_
    refine lv_iload_n hx hb dX7_holdsNow_28 rfl (lv_at hl 4 rfl) ?_
    refine x_aald hx hb hK hH (id := [22, 4, p]) (by first | trivial | (simp only [xD]; omega) | (simp [xD]; done) | (simp [xD]; omega)) 8 (L := 8) rfl (by decide) j rfl (by omega) (by decide) (v := .ref (ga g [23, 4, p, j])) (by show rq _ (if _ then _ else _) = _; rw [if_pos (by omega)]; rfl) dX7_holdsNow_29 ?_
    refine lv_iload_n hx hb dX7_holdsNow_30 rfl (lv_at hl 5 rfl) ?_
    refine x_cald hx hb hK hH (id := [23, 4, p, j]) (by first | trivial | (simp only [xD]; omega) | (simp [xD]; done) | (simp [xD]; omega)) (L := 6) rfl (r := (I [23, 4, p, j])) rfl ((3 * w + k)) rfl (by omega) (by decide) dX7_holdsNow_31 ?_
    rw [show (I [23, 4, p, j] (3 * w + k)) = 101 from (hq.1.trans h0)]
    refine lv_tableIn (tgt := 146) hx hb dX7_holdsNow_32 (by decide) (by decide) rfl (by decide) ?_
    refine lv_aload_n hx hb dX7_holdsNow_146 rfl (lv_at hl 2 rfl) ?_
    refine x_get (C := RX7) (T := TX7) (N := 24) (ci := 7) hx hb hts iu7 hown hK hH (id := [20]) (by first | trivial | (simp only [xD]; omega) | (simp [xD]; done) | (simp [xD]; omega)) rfl rfl (by decide) 21 (by decide) (hts _ tw860) (fun _ h9 => h9) rfl (v := .int (X 0 8)) (congrArg Value.int (mW_c8 _ _ _)) dX7_holdsNow_147 ?_
    refine lv_iload hx hb dX7_holdsNow_150 (lv_at hl 0 rfl) ?_
    refine lv_icmp_ne (tgt := 159) hx hb dX7_holdsNow_152 (by decide) (fun c_152 => ?_) (fun c_152 => ?_)
    · skip
      refine lv_iconst (v := 0) hx hb dX7_holdsNow_159 (by decide) ?_
      exact x_zret hx hb hr hlocks hS dX7_holdsNow_160 rfl (b01_f (by rw [(sMet_e h0)]; exact decide_eq_false (c_152))) hH
    · skip
      refine lv_iconst (v := 1) hx hb dX7_holdsNow_155 (by decide) ?_
      refine lv_goto (tgt := 160) hx hb dX7_holdsNow_156 (by decide) ?_
      exact x_zret hx hb hr hlocks hS dX7_holdsNow_160 rfl (b01_t (by rw [(sMet_e h0)]; exact decide_eq_true (c_152))) hH
  · skip
    have hcl : (I [10, p, j, w, k] 1).toNatClampNeg = a := by rw [h1]; exact nI_clamp (by omega)
    refine lv_aload_n hx hb dX7_holdsNow_0 rfl (lv_at hl 0 rfl) ?_
    refine x_get (C := RX7) (T := TX7) (N := 24) (ci := 7) hx hb hts iu7 hown hK hH (id := [20]) (by first | trivial | (simp only [xD]; omega) | (simp [xD]; done) | (simp [xD]; omega)) rfl rfl (by decide) 11 (by decide) (hts _ tw850) (fun _ h9 => h9) rfl (v := .ref (ga g [24, 11])) rfl dX7_holdsNow_1 ?_
    refine lv_iload_n hx hb dX7_holdsNow_4 rfl (lv_at hl 1 rfl) ?_
    refine x_iald hx hb hK hH (id := [24, 11]) (by first | trivial | (simp only [xD]; omega) | (simp [xD]; done) | (simp [xD]; omega)) (L := 4) rfl (r := (I [24, 11])) rfl c rfl (by omega) (by decide) dX7_holdsNow_5 ?_
    rw [show (I [24, 11] c) = (nI p) from hpo]
    refine lv_istore (lv' := [(4, .int (nI p)), (0, .ref (ga g [20])), (1, .int (nI c)), (2, .int (nI j)), (3, .int (nI (3 * w + k)))]) hx hb dX7_holdsNow_6 hl (by decide) rfl (fun ls hl => ?_)
    refine lv_aload_n hx hb dX7_holdsNow_8 rfl (lv_at hl 1 rfl) ?_
    refine x_get (C := RX7) (T := TX7) (N := 24) (ci := 7) hx hb hts iu7 hown hK hH (id := [20]) (by first | trivial | (simp only [xD]; omega) | (simp [xD]; done) | (simp [xD]; omega)) rfl rfl (by decide) 5 (by decide) (hts _ tw844) (fun _ h9 => h9) rfl (v := .ref (ga g [21, 5])) rfl dX7_holdsNow_9 ?_
    refine lv_iload hx hb dX7_holdsNow_12 (lv_at hl 0 rfl) ?_
    refine x_aald hx hb hK hH (id := [21, 5]) (by first | trivial | (simp only [xD]; omega) | (simp [xD]; done) | (simp [xD]; omega)) 10 (L := 3) rfl (by decide) p rfl (by omega) (by decide) (v := .ref (ga g [22, 5, p])) (by show rq _ (if _ then _ else _) = _; rw [if_pos (show p < xLn 5 by show _ < 3; omega)]; rfl) dX7_holdsNow_14 ?_
    refine lv_iload_n hx hb dX7_holdsNow_15 rfl (lv_at hl 3 rfl) ?_
    refine x_aald hx hb hK hH (id := [22, 5, p]) (by first | trivial | (simp only [xD]; omega) | (simp [xD]; done) | (simp [xD]; omega)) 7 (L := 8) rfl (by decide) j rfl (by omega) (by decide) (v := .ref (ga g [23, 5, p, j])) (by show rq _ (if _ then _ else _) = _; rw [if_pos (by omega)]; rfl) dX7_holdsNow_16 ?_
    refine lv_iload_n hx hb dX7_holdsNow_17 rfl (lv_at hl 4 rfl) ?_
    refine x_iald hx hb hK hH (id := [23, 5, p, j]) (by first | trivial | (simp only [xD]; omega) | (simp [xD]; done) | (simp [xD]; omega)) (L := 6) rfl (r := (I [23, 5, p, j])) rfl ((3 * w + k)) rfl (by omega) (by decide) dX7_holdsNow_18 ?_
    rw [show (I [23, 5, p, j] (3 * w + k)) = (nI a) from (hq.2.1.trans h1)]
    refine lv_istore (lv' := [(5, .int (nI a)), (4, .int (nI p)), (0, .ref (ga g [20])), (1, .int (nI c)), (2, .int (nI j)), (3, .int (nI (3 * w + k)))]) hx hb dX7_holdsNow_19 hl (by decide) rfl (fun ls hl => ?_)
    refine lv_aload_n hx hb dX7_holdsNow_21 rfl (lv_at hl 2 rfl) ?_
    refine x_get (C := RX7) (T := TX7) (N := 24) (ci := 7) hx hb hts iu7 hown hK hH (id := [20]) (by first | trivial | (simp only [xD]; omega) | (simp [xD]; done) | (simp [xD]; omega)) rfl rfl (by decide) 4 (by decide) (hts _ tw843) (fun _ h9 => h9) rfl (v := .ref (ga g [21, 4])) rfl dX7_holdsNow_22 ?_
    refine lv_iload hx hb dX7_holdsNow_25 (lv_at hl 1 rfl) ?_
    refine x_aald hx hb hK hH (id := [21, 4]) (by first | trivial | (simp only [xD]; omega) | (simp [xD]; done) | (simp [xD]; omega)) 11 (L := 3) rfl (by decide) p rfl (by omega) (by decide) (v := .ref (ga g [22, 4, p])) (by show rq _ (if _ then _ else _) = _; rw [if_pos (show p < xLn 4 by show _ < 3; omega)]; rfl) dX7_holdsNow_27 ?_
    refine lv_iload_n hx hb dX7_holdsNow_28 rfl (lv_at hl 4 rfl) ?_
    refine x_aald hx hb hK hH (id := [22, 4, p]) (by first | trivial | (simp only [xD]; omega) | (simp [xD]; done) | (simp [xD]; omega)) 8 (L := 8) rfl (by decide) j rfl (by omega) (by decide) (v := .ref (ga g [23, 4, p, j])) (by show rq _ (if _ then _ else _) = _; rw [if_pos (by omega)]; rfl) dX7_holdsNow_29 ?_
    refine lv_iload_n hx hb dX7_holdsNow_30 rfl (lv_at hl 5 rfl) ?_
    refine x_cald hx hb hK hH (id := [23, 4, p, j]) (by first | trivial | (simp only [xD]; omega) | (simp [xD]; done) | (simp [xD]; omega)) (L := 6) rfl (r := (I [23, 4, p, j])) rfl ((3 * w + k)) rfl (by omega) (by decide) dX7_holdsNow_31 ?_
    rw [show (I [23, 4, p, j] (3 * w + k)) = 99 from (hq.1.trans h0)]
    refine lv_tableIn (tgt := 161) hx hb dX7_holdsNow_32 (by decide) (by decide) rfl (by decide) ?_
    refine lv_aload_n hx hb dX7_holdsNow_161 rfl (lv_at hl 2 rfl) ?_
    refine x_get (C := RX7) (T := TX7) (N := 24) (ci := 7) hx hb hts iu7 hown hK hH (id := [20]) (by first | trivial | (simp only [xD]; omega) | (simp [xD]; done) | (simp [xD]; omega)) rfl rfl (by decide) 14 (by decide) (hts _ tw853) (fun _ h9 => h9) rfl (v := .ref (ga g [21, 14])) rfl dX7_holdsNow_162 ?_
    refine lv_iload_n hx hb dX7_holdsNow_165 rfl (lv_at hl 3 rfl) ?_
    refine x_aald hx hb hK hH (id := [21, 14]) (by first | trivial | (simp only [xD]; omega) | (simp [xD]; done) | (simp [xD]; omega)) 8 (L := 4) rfl (by decide) c rfl (by omega) (by decide) (v := .ref (ga g [22, 14, c])) (by show rq _ (if _ then _ else _) = _; rw [if_pos (show c < xLn 14 by show _ < 4; omega)]; rfl) dX7_holdsNow_166 ?_
    refine lv_iload hx hb dX7_holdsNow_167 (lv_at hl 0 rfl) ?_
    refine x_cald hx hb hK hH (id := [22, 14, c]) (by first | trivial | (simp only [xD]; omega) | (simp [xD]; done) | (simp [xD]; omega)) (L := 8) rfl (r := (X 2)) (mW_r2 _ _ _) a rfl (by omega) (by decide) dX7_holdsNow_169 ?_
    refine lv_bipush (v := 99) hx hb dX7_holdsNow_170 (by decide) ?_
    refine lv_icmp_ne (tgt := 179) hx hb dX7_holdsNow_172 (by decide) (fun c_172 => ?_) (fun c_172 => ?_)
    · skip
      refine lv_iconst (v := 0) hx hb dX7_holdsNow_179 (by decide) ?_
      exact x_zret hx hb hr hlocks hS dX7_holdsNow_180 rfl (b01_f (by rw [(sMet_c h0), hcl]; exact decide_eq_false (c_172))) hH
    · skip
      refine lv_iconst (v := 1) hx hb dX7_holdsNow_175 (by decide) ?_
      refine lv_goto (tgt := 180) hx hb dX7_holdsNow_176 (by decide) ?_
      exact x_zret hx hb hr hlocks hS dX7_holdsNow_180 rfl (b01_t (by rw [(sMet_c h0), hcl]; exact decide_eq_true (c_172))) hH
  · skip
    refine lv_aload_n hx hb dX7_holdsNow_0 rfl (lv_at hl 0 rfl) ?_
    refine x_get (C := RX7) (T := TX7) (N := 24) (ci := 7) hx hb hts iu7 hown hK hH (id := [20]) (by first | trivial | (simp only [xD]; omega) | (simp [xD]; done) | (simp [xD]; omega)) rfl rfl (by decide) 11 (by decide) (hts _ tw850) (fun _ h9 => h9) rfl (v := .ref (ga g [24, 11])) rfl dX7_holdsNow_1 ?_
    refine lv_iload_n hx hb dX7_holdsNow_4 rfl (lv_at hl 1 rfl) ?_
    refine x_iald hx hb hK hH (id := [24, 11]) (by first | trivial | (simp only [xD]; omega) | (simp [xD]; done) | (simp [xD]; omega)) (L := 4) rfl (r := (I [24, 11])) rfl c rfl (by omega) (by decide) dX7_holdsNow_5 ?_
    rw [show (I [24, 11] c) = (nI p) from hpo]
    refine lv_istore (lv' := [(4, .int (nI p)), (0, .ref (ga g [20])), (1, .int (nI c)), (2, .int (nI j)), (3, .int (nI (3 * w + k)))]) hx hb dX7_holdsNow_6 hl (by decide) rfl (fun ls hl => ?_)
    refine lv_aload_n hx hb dX7_holdsNow_8 rfl (lv_at hl 1 rfl) ?_
    refine x_get (C := RX7) (T := TX7) (N := 24) (ci := 7) hx hb hts iu7 hown hK hH (id := [20]) (by first | trivial | (simp only [xD]; omega) | (simp [xD]; done) | (simp [xD]; omega)) rfl rfl (by decide) 5 (by decide) (hts _ tw844) (fun _ h9 => h9) rfl (v := .ref (ga g [21, 5])) rfl dX7_holdsNow_9 ?_
    refine lv_iload hx hb dX7_holdsNow_12 (lv_at hl 0 rfl) ?_
    refine x_aald hx hb hK hH (id := [21, 5]) (by first | trivial | (simp only [xD]; omega) | (simp [xD]; done) | (simp [xD]; omega)) 10 (L := 3) rfl (by decide) p rfl (by omega) (by decide) (v := .ref (ga g [22, 5, p])) (by show rq _ (if _ then _ else _) = _; rw [if_pos (show p < xLn 5 by show _ < 3; omega)]; rfl) dX7_holdsNow_14 ?_
    refine lv_iload_n hx hb dX7_holdsNow_15 rfl (lv_at hl 3 rfl) ?_
    refine x_aald hx hb hK hH (id := [22, 5, p]) (by first | trivial | (simp only [xD]; omega) | (simp [xD]; done) | (simp [xD]; omega)) 7 (L := 8) rfl (by decide) j rfl (by omega) (by decide) (v := .ref (ga g [23, 5, p, j])) (by show rq _ (if _ then _ else _) = _; rw [if_pos (by omega)]; rfl) dX7_holdsNow_16 ?_
    refine lv_iload_n hx hb dX7_holdsNow_17 rfl (lv_at hl 4 rfl) ?_
    refine x_iald hx hb hK hH (id := [23, 5, p, j]) (by first | trivial | (simp only [xD]; omega) | (simp [xD]; done) | (simp [xD]; omega)) (L := 6) rfl (r := (I [23, 5, p, j])) rfl ((3 * w + k)) rfl (by omega) (by decide) dX7_holdsNow_18 ?_
    rw [show (I [23, 5, p, j] (3 * w + k)) = (I [10, p, j, w, k] 1) from hq.2.1]
    refine lv_istore (lv' := [(5, .int (I [10, p, j, w, k] 1)), (4, .int (nI p)), (0, .ref (ga g [20])), (1, .int (nI c)), (2, .int (nI j)), (3, .int (nI (3 * w + k)))]) hx hb dX7_holdsNow_19 hl (by decide) rfl (fun ls hl => ?_)
    refine lv_aload_n hx hb dX7_holdsNow_21 rfl (lv_at hl 2 rfl) ?_
    refine x_get (C := RX7) (T := TX7) (N := 24) (ci := 7) hx hb hts iu7 hown hK hH (id := [20]) (by first | trivial | (simp only [xD]; omega) | (simp [xD]; done) | (simp [xD]; omega)) rfl rfl (by decide) 4 (by decide) (hts _ tw843) (fun _ h9 => h9) rfl (v := .ref (ga g [21, 4])) rfl dX7_holdsNow_22 ?_
    refine lv_iload hx hb dX7_holdsNow_25 (lv_at hl 1 rfl) ?_
    refine x_aald hx hb hK hH (id := [21, 4]) (by first | trivial | (simp only [xD]; omega) | (simp [xD]; done) | (simp [xD]; omega)) 11 (L := 3) rfl (by decide) p rfl (by omega) (by decide) (v := .ref (ga g [22, 4, p])) (by show rq _ (if _ then _ else _) = _; rw [if_pos (show p < xLn 4 by show _ < 3; omega)]; rfl) dX7_holdsNow_27 ?_
    refine lv_iload_n hx hb dX7_holdsNow_28 rfl (lv_at hl 4 rfl) ?_
    refine x_aald hx hb hK hH (id := [22, 4, p]) (by first | trivial | (simp only [xD]; omega) | (simp [xD]; done) | (simp [xD]; omega)) 8 (L := 8) rfl (by decide) j rfl (by omega) (by decide) (v := .ref (ga g [23, 4, p, j])) (by show rq _ (if _ then _ else _) = _; rw [if_pos (by omega)]; rfl) dX7_holdsNow_29 ?_
    refine lv_iload_n hx hb dX7_holdsNow_30 rfl (lv_at hl 5 rfl) ?_
    refine x_cald hx hb hK hH (id := [23, 4, p, j]) (by first | trivial | (simp only [xD]; omega) | (simp [xD]; done) | (simp [xD]; omega)) (L := 6) rfl (r := (I [23, 4, p, j])) rfl ((3 * w + k)) rfl (by omega) (by decide) dX7_holdsNow_31 ?_
    rw [show (I [23, 4, p, j] (3 * w + k)) = 116 from (hq.1.trans h0)]
    refine lv_tableOut (tgt := 181) hx hb dX7_holdsNow_32 (by decide) (by decide) ?_
    refine lv_aload_n hx hb dX7_holdsNow_181 rfl (lv_at hl 2 rfl) ?_
    refine x_get (C := RX7) (T := TX7) (N := 24) (ci := 7) hx hb hts iu7 hown hK hH (id := [20]) (by first | trivial | (simp only [xD]; omega) | (simp [xD]; done) | (simp [xD]; omega)) rfl rfl (by decide) 17 (by decide) (hts _ tw856) (fun _ h9 => h9) rfl (v := .ref (ga g [24, 17])) rfl dX7_holdsNow_182 ?_
    refine lv_iload_n hx hb dX7_holdsNow_185 rfl (lv_at hl 3 rfl) ?_
    refine x_iald hx hb hK hH (id := [24, 17]) (by first | trivial | (simp only [xD]; omega) | (simp [xD]; done) | (simp [xD]; omega)) (L := 4) rfl (r := (mW I c X [24, 17])) rfl c rfl (by omega) (by decide) dX7_holdsNow_186 ?_
    rw [show (mW I c X [24, 17] c) = (X 0 6) from mW_c6 _ _ _]
    refine lv_iload hx hb dX7_holdsNow_187 (lv_at hl 0 rfl) ?_
    refine lv_icmp_lt (tgt := 196) hx hb dX7_holdsNow_189 (by decide) (fun c_189 => ?_) (fun c_189 => ?_)
    · skip
      refine lv_iconst (v := 0) hx hb dX7_holdsNow_196 (by decide) ?_
      exact x_zret hx hb hr hlocks hS dX7_holdsNow_197 rfl (b01_f (by rw [(sMet_t h0)]; exact decide_eq_false (i_lt_nle c_189))) hH
    · skip
      refine lv_iconst (v := 1) hx hb dX7_holdsNow_192 (by decide) ?_
      refine lv_goto (tgt := 197) hx hb dX7_holdsNow_193 (by decide) ?_
      exact x_zret hx hb hr hlocks hS dX7_holdsNow_197 rfl (b01_t (by rw [(sMet_t h0)]; exact decide_eq_true (i_nlt c_189))) hH

set_option maxHeartbeats 1000000 in
set_option maxRecDepth 100000 in
theorem c_X7_holdsOne_0 (l : Launch) (g : xG) (h : xS) (I : xI) (n c : Nat) (X : xX) (hc : c < 4) (p : Nat) (hpp : p < 3) (hpo : I [24, 11] c = nI p) (hA : mA h I p) (hW : xWp h I p) (j : Nat) (hj : j < sSz h p)  : xM l yX7_holdsOne (xws yX7_holdsOne cX7_holdsOne 6 (some FieldType.boolean)) 2 37 g [.ref (ga g [20]), .int (nI c), .int (nI j), .int 0] (xR g (xD h) (mW I c X) (xFh h) n) (some (.int (b01 (sAny (vC I p j 0) X (sCn h p j 0))))) (xR g (xD h) (mW I c X) (xFh h) n) 0 0 := by
  refine xM.of (by decide) (Nat.le_of_ble_eq_true rfl) ?_
  intro P_ e_ s m_ bl_ mt_ cd_ ls hx hb hr hown hlocks hml hnm hE hK hts hH hS hl
  have hl : lv_has ls 6 [(0, .ref (ga g [20])), (1, .int (nI c)), (2, .int (nI j)), (3, .int 0)] := hl
  have h8 := hW.1
  have h3 := ((hW.2.2.2 j hj).2.2 0 (by decide)).2.1
  refine lv_iconst (v := 0) hx hb dX7_holdsOne_0 (by decide) ?_
  refine lv_istore (lv' := [(4, .int 0), (0, .ref (ga g [20])), (1, .int (nI c)), (2, .int (nI j)), (3, .int 0)]) hx hb dX7_holdsOne_1 hl (by decide) rfl (fun ls hl => ?_)
  refine lv_iconst (v := 0) hx hb dX7_holdsOne_3 (by decide) ?_
  refine lv_istore (lv' := [(5, .int 0), (4, .int 0), (0, .ref (ga g [20])), (1, .int (nI c)), (2, .int (nI j)), (3, .int 0)]) hx hb dX7_holdsOne_4 hl (by decide) rfl (fun ls hl => ?_)
  have L6 : ∀ (fu : Nat) (i : Nat) (b : Int32) (H : Heap) (locs : List Loc) (ls : Array Slot), (i ≤ sCn h p j 0) → (b = b01 (sAny (vC I p j 0) X i)) → sCn h p j 0 - i < fu → xR g (xD h) (mW I c X) (xFh h) n H → va_S (gA g) s.heap H locs → lv_has ls 6 [(0, .ref (ga g [20])), (1, .int (nI c)), (2, .int (nI j)), (3, .int 0), (4, .int b), (5, .int (nI i))] → W P_ l e_ { frames := 2, cells := 0, slots := 0, locals := 37 } s m_ ([.ref (ga g [20]), .int (nI c), .int (nI j), .int 0] : List Value).toArray bl_ mt_ cd_ H locs 0 0 (MQ bl_ (xQc g (some (.int (b01 (sAny (vC I p j 0) X (sCn h p j 0))))) (xR g (xD h) (mW I c X) (xFh h) n)) ([.ref (ga g [20]), .int (nI c), .int (nI j), .int 0] : List Value).toArray s 0 0 (gA g)) (F0 m_ 6 ls []) := by
    intro fu
    induction fu with
    | zero => intro i b H locs ls hi hbb hfu; exact absurd hfu (Nat.not_lt_zero _)
    | succ fu ih6 =>
      intro i b H locs ls hi hbb hfu hH hS hl
      refine lv_iload hx hb dX7_holdsOne_6 (lv_at hl 5 rfl) ?_
      refine lv_aload_n hx hb dX7_holdsOne_8 rfl (lv_at hl 0 rfl) ?_
      refine x_get (C := RX7) (T := TX7) (N := 24) (ci := 7) hx hb hts iu7 hown hK hH (id := [20]) (by first | trivial | (simp only [xD]; omega) | (simp [xD]; done) | (simp [xD]; omega)) rfl rfl (by decide) 7 (by decide) (hts _ tw846) (fun _ h9 => h9) rfl (v := .ref (ga g [21, 7])) rfl dX7_holdsOne_9 ?_
      refine lv_aload_n hx hb dX7_holdsOne_12 rfl (lv_at hl 0 rfl) ?_
      refine x_get (C := RX7) (T := TX7) (N := 24) (ci := 7) hx hb hts iu7 hown hK hH (id := [20]) (by first | trivial | (simp only [xD]; omega) | (simp [xD]; done) | (simp [xD]; omega)) rfl rfl (by decide) 11 (by decide) (hts _ tw850) (fun _ h9 => h9) rfl (v := .ref (ga g [24, 11])) rfl dX7_holdsOne_13 ?_
      refine lv_iload_n hx hb dX7_holdsOne_16 rfl (lv_at hl 1 rfl) ?_
      refine x_iald hx hb hK hH (id := [24, 11]) (by first | trivial | (simp only [xD]; omega) | (simp [xD]; done) | (simp [xD]; omega)) (L := 4) rfl (r := (I [24, 11])) rfl c rfl (by omega) (by decide) dX7_holdsOne_17 ?_
      rw [show (I [24, 11] c) = (nI p) from hpo]
      refine x_aald hx hb hK hH (id := [21, 7]) (by first | trivial | (simp only [xD]; omega) | (simp [xD]; done) | (simp [xD]; omega)) 10 (L := 3) rfl (by decide) p rfl (by omega) (by decide) (v := .ref (ga g [22, 7, p])) (by show rq _ (if _ then _ else _) = _; rw [if_pos (show p < xLn 7 by show _ < 3; omega)]; rfl) dX7_holdsOne_18 ?_
      refine lv_iload_n hx hb dX7_holdsOne_19 rfl (lv_at hl 2 rfl) ?_
      refine x_aald hx hb hK hH (id := [22, 7, p]) (by first | trivial | (simp only [xD]; omega) | (simp [xD]; done) | (simp [xD]; omega)) 7 (L := 8) rfl (by decide) j rfl (by omega) (by decide) (v := .ref (ga g [23, 7, p, j])) (by show rq _ (if _ then _ else _) = _; rw [if_pos (by omega)]; rfl) dX7_holdsOne_20 ?_
      refine lv_iload_n hx hb dX7_holdsOne_21 rfl (lv_at hl 3 rfl) ?_
      refine x_iald hx hb hK hH (id := [23, 7, p, j]) (by first | trivial | (simp only [xD]; omega) | (simp [xD]; done) | (simp [xD]; omega)) (L := 2) rfl (r := (I [23, 7, p, j])) rfl 0 (by rfl) (by omega) (by decide) dX7_holdsOne_22 ?_
      rw [show (I [23, 7, p, j] 0) = (nI (sCn h p j 0)) from ((hA.2 j (by omega)).2.2.2.2.2 0 (by decide)).1]
      refine lv_icmp_ge (tgt := 59) hx hb dX7_holdsOne_23 (by decide) (fun c_23 => ?_) (fun c_23 => ?_)
      · skip
        have c_23 := (nI_leI (a := (sCn h p j 0)) (b := i) (by omega) (by omega)).mp c_23
        refine lv_iload hx hb dX7_holdsOne_59 (lv_at hl 4 rfl) ?_
        exact x_zret hx hb hr hlocks hS dX7_holdsOne_61 (by rw [hbb]; exact b01_nar _) (by rw [hbb, show i = sCn h p j 0 from by omega]) hH
      · skip
        have c_23 : ¬ _ := fun z_ => c_23 ((nI_leI (a := (sCn h p j 0)) (b := i) (by omega) (by omega)).mpr z_)
        refine lv_iload hx hb dX7_holdsOne_26 (lv_at hl 4 rfl) ?_
        refine lv_if_ne (tgt := 46) hx hb dX7_holdsOne_28 (by decide) (fun c_28 => ?_) (fun c_28 => ?_)
        · skip
          refine lv_iconst (v := 1) hx hb dX7_holdsOne_46 (by decide) ?_
          refine lv_goto (tgt := 51) hx hb dX7_holdsOne_47 (by decide) ?_
          refine lv_istore (lv' := [(4, .int 1), (0, .ref (ga g [20])), (1, .int (nI c)), (2, .int (nI j)), (3, .int 0), (5, .int (nI i))]) hx hb dX7_holdsOne_51 hl (by decide) rfl (fun ls hl => ?_)
          refine lv_iinc (v := (nI (i + 1))) (lv' := [(5, .int (nI (i + 1))), (4, .int 1), (0, .ref (ga g [20])), (1, .int (nI c)), (2, .int (nI j)), (3, .int 0)]) hx hb dX7_holdsOne_53 hl (k := 5) rfl (by first | rfl | exact nI_1 _ | exact nI_add _ _) (by decide) rfl (fun ls hl => ?_)
          refine lv_goto (tgt := 6) hx hb dX7_holdsOne_56 (by decide) ?_
          exact ih6 (i + 1) 1 _ _ _ (by omega) (b01_t (by show (_ || _) = true; rw [show (sAny (vC I p j 0) X i) = true from b01_ne0 (hbb ▸ c_28)]; rfl)) (by omega) hH hS (lv_sub hl [2, 3, 4, 5, 1, 0] rfl)
        · skip
          refine lv_aload_n hx hb dX7_holdsOne_31 rfl (lv_at hl 0 rfl) ?_
          refine lv_iload_n hx hb dX7_holdsOne_32 rfl (lv_at hl 1 rfl) ?_
          refine lv_iload_n hx hb dX7_holdsOne_33 rfl (lv_at hl 2 rfl) ?_
          refine lv_iconst (v := 3) hx hb dX7_holdsOne_34 (by decide) ?_
          refine lv_iload_n hx hb dX7_holdsOne_35 rfl (lv_at hl 3 rfl) ?_
          refine lv_imul hx hb dX7_holdsOne_36 ?_
          refine lv_iload hx hb dX7_holdsOne_37 (lv_at hl 5 rfl) ?_
          refine lv_iadd hx hb dX7_holdsOne_39 ?_
          rw [show ((3 * 0) + (nI i)) = (nI (3 * 0 + i)) from (mIx (by decide) i)]
          refine x_V1 hx hb hml hown hE hS hl.1 cyX7_holdsNow tw996 (c_X7_holdsNow l g h I n c X hc p hpp hpo hA hW j hj 0 i (by decide) (by omega)) ⟨Nat.le_of_ble_eq_true rfl, Nat.le_of_ble_eq_true rfl⟩ ⟨Nat.le_of_ble_eq_true rfl, Nat.le_of_ble_eq_true rfl⟩ (x_recv hK hH (id := [20]) (by first | trivial | (simp only [xD]; omega) | (simp [xD]; done) | (simp [xD]; omega)) (ci := 7) rfl (by decide) rfl) hH rfl rfl (Nat.le_of_ble_eq_true rfl) dX7_holdsOne_40 (fun H locs hH hS => ?_)
          refine lv_if_eq (tgt := 50) hx hb dX7_holdsOne_43 (by decide) (fun c_43 => ?_) (fun c_43 => ?_)
          · skip
            refine lv_iconst (v := 0) hx hb dX7_holdsOne_50 (by decide) ?_
            refine lv_istore (lv' := [(4, .int 0), (0, .ref (ga g [20])), (1, .int (nI c)), (2, .int (nI j)), (3, .int 0), (5, .int (nI i))]) hx hb dX7_holdsOne_51 hl (by decide) rfl (fun ls hl => ?_)
            refine lv_iinc (v := (nI (i + 1))) (lv' := [(5, .int (nI (i + 1))), (4, .int 0), (0, .ref (ga g [20])), (1, .int (nI c)), (2, .int (nI j)), (3, .int 0)]) hx hb dX7_holdsOne_53 hl (k := 5) rfl (by first | rfl | exact nI_1 _ | exact nI_add _ _) (by decide) rfl (fun ls hl => ?_)
            refine lv_goto (tgt := 6) hx hb dX7_holdsOne_56 (by decide) ?_
            exact ih6 (i + 1) 0 _ _ _ (by omega) (b01_f (by show (_ || _) = false; rw [(b01_eq0 _).mp (hbb ▸ c_28 : b01 (sAny (vC I p j 0) X i) = 0), show sMet (vC I p j 0 i) X = false from (b01_eq0 _).mp c_43]; rfl)) (by omega) hH hS (lv_sub hl [2, 3, 4, 5, 1, 0] rfl)
          · skip
            refine lv_iconst (v := 1) hx hb dX7_holdsOne_46 (by decide) ?_
            refine lv_goto (tgt := 51) hx hb dX7_holdsOne_47 (by decide) ?_
            refine lv_istore (lv' := [(4, .int 1), (0, .ref (ga g [20])), (1, .int (nI c)), (2, .int (nI j)), (3, .int 0), (5, .int (nI i))]) hx hb dX7_holdsOne_51 hl (by decide) rfl (fun ls hl => ?_)
            refine lv_iinc (v := (nI (i + 1))) (lv' := [(5, .int (nI (i + 1))), (4, .int 1), (0, .ref (ga g [20])), (1, .int (nI c)), (2, .int (nI j)), (3, .int 0)]) hx hb dX7_holdsOne_53 hl (k := 5) rfl (by first | rfl | exact nI_1 _ | exact nI_add _ _) (by decide) rfl (fun ls hl => ?_)
            refine lv_goto (tgt := 6) hx hb dX7_holdsOne_56 (by decide) ?_
            exact ih6 (i + 1) 1 _ _ _ (by omega) (b01_t (by show (_ || _) = true; rw [show sMet (vC I p j 0 i) X = true from b01_ne0 c_43]; exact Bool.or_true _)) (by omega) hH hS (lv_sub hl [2, 3, 4, 5, 1, 0] rfl)
  exact L6 _ 0 0 _ _ _ (by omega) rfl (Nat.lt_succ_self _) hH hS (lv_sub hl [2, 3, 4, 5, 1, 0] rfl)

set_option maxHeartbeats 1000000 in
set_option maxRecDepth 100000 in
theorem c_X7_holdsOne_1 (l : Launch) (g : xG) (h : xS) (I : xI) (n c : Nat) (X : xX) (hc : c < 4) (p : Nat) (hpp : p < 3) (hpo : I [24, 11] c = nI p) (hA : mA h I p) (hW : xWp h I p) (j : Nat) (hj : j < sSz h p)  : xM l yX7_holdsOne (xws yX7_holdsOne cX7_holdsOne 6 (some FieldType.boolean)) 2 37 g [.ref (ga g [20]), .int (nI c), .int (nI j), .int 1] (xR g (xD h) (mW I c X) (xFh h) n) (some (.int (b01 (sAny (vC I p j 1) X (sCn h p j 1))))) (xR g (xD h) (mW I c X) (xFh h) n) 0 0 := by
  refine xM.of (by decide) (Nat.le_of_ble_eq_true rfl) ?_
  intro P_ e_ s m_ bl_ mt_ cd_ ls hx hb hr hown hlocks hml hnm hE hK hts hH hS hl
  have hl : lv_has ls 6 [(0, .ref (ga g [20])), (1, .int (nI c)), (2, .int (nI j)), (3, .int 1)] := hl
  have h8 := hW.1
  have h3 := ((hW.2.2.2 j hj).2.2 1 (by decide)).2.1
  refine lv_iconst (v := 0) hx hb dX7_holdsOne_0 (by decide) ?_
  refine lv_istore (lv' := [(4, .int 0), (0, .ref (ga g [20])), (1, .int (nI c)), (2, .int (nI j)), (3, .int 1)]) hx hb dX7_holdsOne_1 hl (by decide) rfl (fun ls hl => ?_)
  refine lv_iconst (v := 0) hx hb dX7_holdsOne_3 (by decide) ?_
  refine lv_istore (lv' := [(5, .int 0), (4, .int 0), (0, .ref (ga g [20])), (1, .int (nI c)), (2, .int (nI j)), (3, .int 1)]) hx hb dX7_holdsOne_4 hl (by decide) rfl (fun ls hl => ?_)
  have L6 : ∀ (fu : Nat) (i : Nat) (b : Int32) (H : Heap) (locs : List Loc) (ls : Array Slot), (i ≤ sCn h p j 1) → (b = b01 (sAny (vC I p j 1) X i)) → sCn h p j 1 - i < fu → xR g (xD h) (mW I c X) (xFh h) n H → va_S (gA g) s.heap H locs → lv_has ls 6 [(0, .ref (ga g [20])), (1, .int (nI c)), (2, .int (nI j)), (3, .int 1), (4, .int b), (5, .int (nI i))] → W P_ l e_ { frames := 2, cells := 0, slots := 0, locals := 37 } s m_ ([.ref (ga g [20]), .int (nI c), .int (nI j), .int 1] : List Value).toArray bl_ mt_ cd_ H locs 0 0 (MQ bl_ (xQc g (some (.int (b01 (sAny (vC I p j 1) X (sCn h p j 1))))) (xR g (xD h) (mW I c X) (xFh h) n)) ([.ref (ga g [20]), .int (nI c), .int (nI j), .int 1] : List Value).toArray s 0 0 (gA g)) (F0 m_ 6 ls []) := by
    intro fu
    induction fu with
    | zero => intro i b H locs ls hi hbb hfu; exact absurd hfu (Nat.not_lt_zero _)
    | succ fu ih6 =>
      intro i b H locs ls hi hbb hfu hH hS hl
      refine lv_iload hx hb dX7_holdsOne_6 (lv_at hl 5 rfl) ?_
      refine lv_aload_n hx hb dX7_holdsOne_8 rfl (lv_at hl 0 rfl) ?_
      refine x_get (C := RX7) (T := TX7) (N := 24) (ci := 7) hx hb hts iu7 hown hK hH (id := [20]) (by first | trivial | (simp only [xD]; omega) | (simp [xD]; done) | (simp [xD]; omega)) rfl rfl (by decide) 7 (by decide) (hts _ tw846) (fun _ h9 => h9) rfl (v := .ref (ga g [21, 7])) rfl dX7_holdsOne_9 ?_
      refine lv_aload_n hx hb dX7_holdsOne_12 rfl (lv_at hl 0 rfl) ?_
      refine x_get (C := RX7) (T := TX7) (N := 24) (ci := 7) hx hb hts iu7 hown hK hH (id := [20]) (by first | trivial | (simp only [xD]; omega) | (simp [xD]; done) | (simp [xD]; omega)) rfl rfl (by decide) 11 (by decide) (hts _ tw850) (fun _ h9 => h9) rfl (v := .ref (ga g [24, 11])) rfl dX7_holdsOne_13 ?_
      refine lv_iload_n hx hb dX7_holdsOne_16 rfl (lv_at hl 1 rfl) ?_
      refine x_iald hx hb hK hH (id := [24, 11]) (by first | trivial | (simp only [xD]; omega) | (simp [xD]; done) | (simp [xD]; omega)) (L := 4) rfl (r := (I [24, 11])) rfl c rfl (by omega) (by decide) dX7_holdsOne_17 ?_
      rw [show (I [24, 11] c) = (nI p) from hpo]
      refine x_aald hx hb hK hH (id := [21, 7]) (by first | trivial | (simp only [xD]; omega) | (simp [xD]; done) | (simp [xD]; omega)) 10 (L := 3) rfl (by decide) p rfl (by omega) (by decide) (v := .ref (ga g [22, 7, p])) (by show rq _ (if _ then _ else _) = _; rw [if_pos (show p < xLn 7 by show _ < 3; omega)]; rfl) dX7_holdsOne_18 ?_
      refine lv_iload_n hx hb dX7_holdsOne_19 rfl (lv_at hl 2 rfl) ?_
      refine x_aald hx hb hK hH (id := [22, 7, p]) (by first | trivial | (simp only [xD]; omega) | (simp [xD]; done) | (simp [xD]; omega)) 7 (L := 8) rfl (by decide) j rfl (by omega) (by decide) (v := .ref (ga g [23, 7, p, j])) (by show rq _ (if _ then _ else _) = _; rw [if_pos (by omega)]; rfl) dX7_holdsOne_20 ?_
      refine lv_iload_n hx hb dX7_holdsOne_21 rfl (lv_at hl 3 rfl) ?_
      refine x_iald hx hb hK hH (id := [23, 7, p, j]) (by first | trivial | (simp only [xD]; omega) | (simp [xD]; done) | (simp [xD]; omega)) (L := 2) rfl (r := (I [23, 7, p, j])) rfl 1 (by rfl) (by omega) (by decide) dX7_holdsOne_22 ?_
      rw [show (I [23, 7, p, j] 1) = (nI (sCn h p j 1)) from ((hA.2 j (by omega)).2.2.2.2.2 1 (by decide)).1]
      refine lv_icmp_ge (tgt := 59) hx hb dX7_holdsOne_23 (by decide) (fun c_23 => ?_) (fun c_23 => ?_)
      · skip
        have c_23 := (nI_leI (a := (sCn h p j 1)) (b := i) (by omega) (by omega)).mp c_23
        refine lv_iload hx hb dX7_holdsOne_59 (lv_at hl 4 rfl) ?_
        exact x_zret hx hb hr hlocks hS dX7_holdsOne_61 (by rw [hbb]; exact b01_nar _) (by rw [hbb, show i = sCn h p j 1 from by omega]) hH
      · skip
        have c_23 : ¬ _ := fun z_ => c_23 ((nI_leI (a := (sCn h p j 1)) (b := i) (by omega) (by omega)).mpr z_)
        refine lv_iload hx hb dX7_holdsOne_26 (lv_at hl 4 rfl) ?_
        refine lv_if_ne (tgt := 46) hx hb dX7_holdsOne_28 (by decide) (fun c_28 => ?_) (fun c_28 => ?_)
        · skip
          refine lv_iconst (v := 1) hx hb dX7_holdsOne_46 (by decide) ?_
          refine lv_goto (tgt := 51) hx hb dX7_holdsOne_47 (by decide) ?_
          refine lv_istore (lv' := [(4, .int 1), (0, .ref (ga g [20])), (1, .int (nI c)), (2, .int (nI j)), (3, .int 1), (5, .int (nI i))]) hx hb dX7_holdsOne_51 hl (by decide) rfl (fun ls hl => ?_)
          refine lv_iinc (v := (nI (i + 1))) (lv' := [(5, .int (nI (i + 1))), (4, .int 1), (0, .ref (ga g [20])), (1, .int (nI c)), (2, .int (nI j)), (3, .int 1)]) hx hb dX7_holdsOne_53 hl (k := 5) rfl (by first | rfl | exact nI_1 _ | exact nI_add _ _) (by decide) rfl (fun ls hl => ?_)
          refine lv_goto (tgt := 6) hx hb dX7_holdsOne_56 (by decide) ?_
          exact ih6 (i + 1) 1 _ _ _ (by omega) (b01_t (by show (_ || _) = true; rw [show (sAny (vC I p j 1) X i) = true from b01_ne0 (hbb ▸ c_28)]; rfl)) (by omega) hH hS (lv_sub hl [2, 3, 4, 5, 1, 0] rfl)
        · skip
          refine lv_aload_n hx hb dX7_holdsOne_31 rfl (lv_at hl 0 rfl) ?_
          refine lv_iload_n hx hb dX7_holdsOne_32 rfl (lv_at hl 1 rfl) ?_
          refine lv_iload_n hx hb dX7_holdsOne_33 rfl (lv_at hl 2 rfl) ?_
          refine lv_iconst (v := 3) hx hb dX7_holdsOne_34 (by decide) ?_
          refine lv_iload_n hx hb dX7_holdsOne_35 rfl (lv_at hl 3 rfl) ?_
          refine lv_imul hx hb dX7_holdsOne_36 ?_
          refine lv_iload hx hb dX7_holdsOne_37 (lv_at hl 5 rfl) ?_
          refine lv_iadd hx hb dX7_holdsOne_39 ?_
          rw [show ((3 * 1) + (nI i)) = (nI (3 * 1 + i)) from (mIx (by decide) i)]
          refine x_V1 hx hb hml hown hE hS hl.1 cyX7_holdsNow tw996 (c_X7_holdsNow l g h I n c X hc p hpp hpo hA hW j hj 1 i (by decide) (by omega)) ⟨Nat.le_of_ble_eq_true rfl, Nat.le_of_ble_eq_true rfl⟩ ⟨Nat.le_of_ble_eq_true rfl, Nat.le_of_ble_eq_true rfl⟩ (x_recv hK hH (id := [20]) (by first | trivial | (simp only [xD]; omega) | (simp [xD]; done) | (simp [xD]; omega)) (ci := 7) rfl (by decide) rfl) hH rfl rfl (Nat.le_of_ble_eq_true rfl) dX7_holdsOne_40 (fun H locs hH hS => ?_)
          refine lv_if_eq (tgt := 50) hx hb dX7_holdsOne_43 (by decide) (fun c_43 => ?_) (fun c_43 => ?_)
          · skip
            refine lv_iconst (v := 0) hx hb dX7_holdsOne_50 (by decide) ?_
            refine lv_istore (lv' := [(4, .int 0), (0, .ref (ga g [20])), (1, .int (nI c)), (2, .int (nI j)), (3, .int 1), (5, .int (nI i))]) hx hb dX7_holdsOne_51 hl (by decide) rfl (fun ls hl => ?_)
            refine lv_iinc (v := (nI (i + 1))) (lv' := [(5, .int (nI (i + 1))), (4, .int 0), (0, .ref (ga g [20])), (1, .int (nI c)), (2, .int (nI j)), (3, .int 1)]) hx hb dX7_holdsOne_53 hl (k := 5) rfl (by first | rfl | exact nI_1 _ | exact nI_add _ _) (by decide) rfl (fun ls hl => ?_)
            refine lv_goto (tgt := 6) hx hb dX7_holdsOne_56 (by decide) ?_
            exact ih6 (i + 1) 0 _ _ _ (by omega) (b01_f (by show (_ || _) = false; rw [(b01_eq0 _).mp (hbb ▸ c_28 : b01 (sAny (vC I p j 1) X i) = 0), show sMet (vC I p j 1 i) X = false from (b01_eq0 _).mp c_43]; rfl)) (by omega) hH hS (lv_sub hl [2, 3, 4, 5, 1, 0] rfl)
          · skip
            refine lv_iconst (v := 1) hx hb dX7_holdsOne_46 (by decide) ?_
            refine lv_goto (tgt := 51) hx hb dX7_holdsOne_47 (by decide) ?_
            refine lv_istore (lv' := [(4, .int 1), (0, .ref (ga g [20])), (1, .int (nI c)), (2, .int (nI j)), (3, .int 1), (5, .int (nI i))]) hx hb dX7_holdsOne_51 hl (by decide) rfl (fun ls hl => ?_)
            refine lv_iinc (v := (nI (i + 1))) (lv' := [(5, .int (nI (i + 1))), (4, .int 1), (0, .ref (ga g [20])), (1, .int (nI c)), (2, .int (nI j)), (3, .int 1)]) hx hb dX7_holdsOne_53 hl (k := 5) rfl (by first | rfl | exact nI_1 _ | exact nI_add _ _) (by decide) rfl (fun ls hl => ?_)
            refine lv_goto (tgt := 6) hx hb dX7_holdsOne_56 (by decide) ?_
            exact ih6 (i + 1) 1 _ _ _ (by omega) (b01_t (by show (_ || _) = true; rw [show sMet (vC I p j 1 i) X = true from b01_ne0 c_43]; exact Bool.or_true _)) (by omega) hH hS (lv_sub hl [2, 3, 4, 5, 1, 0] rfl)
  exact L6 _ 0 0 _ _ _ (by omega) rfl (Nat.lt_succ_self _) hH hS (lv_sub hl [2, 3, 4, 5, 1, 0] rfl)

theorem rw2_self (X : xX) : rw2 X (X 2) = X := by funext f; unfold rw2; split <;> simp_all
theorem rw2_rw2 (X : xX) (S T : Nat → Int32) : rw2 (rw2 X S) T = rw2 X T := by funext f; unfold rw2; split <;> rfl
theorem rw2_up2 (X : xX) (k : Nat) (v : Int32) (S : Nat → Int32) : rw2 (up2 X 2 k v) S = rw2 X S := by
  funext f q; unfold rw2 up2
  split
  · rfl
  · rename_i h; exact if_neg (fun z => h z.1)
theorem up2_row (X : xX) (k : Nat) (v : Int32) : up2 X 2 k v 2 = fun q => if q = k then v else X 2 q := by funext q; simp [up2]
theorem up2_rw2 (X : xX) (k : Nat) (v : Int32) : up2 X 2 k v = rw2 X (fun q => if q = k then v else X 2 q) := by
  funext f q; unfold rw2 up2
  by_cases h : f = 2
  · subst h; simp
  · simp [h]
theorem sEnd_rw2 (P : Nat → Nat → Int32) (n k : Nat) (X : xX) (S : Nat → Int32) (v : Int32) : sEnd P n (rw2 X S) k v = rw2 X (clE P n k (fun q => if q = k then v else S q)) := (sEnd_cl P n k (rw2 X S) v).trans (rw2_rw2 X S _)
theorem xWp.pW {h : xS} {I : xI} {p : Nat} (hW : xWp h I p) : pW (vP I p) (sSz h p) := fun i hi => ((hW.2.2.2 i hi).2.1).imp_right (fun ⟨q, a, b, _⟩ => ⟨q, a, b⟩)
theorem xWp.leaf {h : xS} {I : xI} {p k : Nat} (hW : xWp h I p) (hk : ¬ I [7, p, k] 0 = 115) : ∀ i, i < sSz h p → vP I p i 1 ≠ -1 → pA (vP I p) i ≠ k := by
  intro i hi hm e
  rcases (hW.2.2.2 i hi).2.1 with z | ⟨q, a, b, d⟩
  · exact hm z
  · have h8 := hW.1
    have : pA (vP I p) i = q := by show (I [7, p, i] 1).toNatClampNeg = q; rw [b]; exact nI_clamp (by omega)
    rw [this] at e; subst e; exact hk d
set_option maxHeartbeats 1000000 in
set_option maxRecDepth 100000 in
theorem c_X7_closes_0 (l : Launch) (g : xG) (h : xS) (I : xI) (n c : Nat) (X : xX) (hc : c < 4) (p : Nat) (hpp : p < 3) (hpo : I [24, 11] c = nI p) (hA : mA h I p) (hW : xWp h I p) (j : Nat) (hj : j < sSz h p) (hlv : sSz h p ≤ j + 1 + 0)  : xM l yX7_closes (xws yX7_closes cX7_closes 5 none) 1 12 g [.ref (ga g [20]), .int (nI c), .int (nI j)] (xR g (xD h) (mW I c X) (xFh h) n) none (xR g (xD h) (mW I c (rw2 X (clE (vP I p) (sSz h p) j (X 2)))) (xFh h) n) 0 0 := by
  refine xM.of (by decide) (Nat.le_of_ble_eq_true rfl) ?_
  intro P_ e_ s m_ bl_ mt_ cd_ ls hx hb hr hown hlocks hml hnm hE hK hts hH hS hl
  have hl : lv_has ls 5 [(0, .ref (ga g [20])), (1, .int (nI c)), (2, .int (nI j))] := hl
  have h8 := hW.1
  refine lv_aload_n hx hb dX7_closes_0 rfl (lv_at hl 0 rfl) ?_
  refine x_get (C := RX7) (T := TX7) (N := 24) (ci := 7) hx hb hts iu7 hown hK hH (id := [20]) (by first | trivial | (simp only [xD]; omega) | (simp [xD]; done) | (simp [xD]; omega)) rfl rfl (by decide) 11 (by decide) (hts _ tw850) (fun _ h9 => h9) rfl (v := .ref (ga g [24, 11])) rfl dX7_closes_1 ?_
  refine lv_iload_n hx hb dX7_closes_4 rfl (lv_at hl 1 rfl) ?_
  refine x_iald hx hb hK hH (id := [24, 11]) (by first | trivial | (simp only [xD]; omega) | (simp [xD]; done) | (simp [xD]; omega)) (L := 4) rfl (r := (I [24, 11])) rfl c rfl (by omega) (by decide) dX7_closes_5 ?_
  rw [show (I [24, 11] c) = (nI p) from hpo]
  refine lv_istore_n (lv' := [(3, .int (nI p)), (0, .ref (ga g [20])), (1, .int (nI c)), (2, .int (nI j))]) hx hb dX7_closes_6 rfl hl (by decide) rfl (fun ls hl => ?_)
  refine lv_iconst (v := 0) hx hb dX7_closes_7 (by decide) ?_
  refine lv_istore (lv' := [(4, .int 0), (3, .int (nI p)), (0, .ref (ga g [20])), (1, .int (nI c)), (2, .int (nI j))]) hx hb dX7_closes_8 hl (by decide) rfl (fun ls hl => ?_)
  have hH : xR g (xD h) (mW I c (rw2 X (X 2))) (xFh h) n s.heap := by rw [rw2_self]; exact hH
  have L10 : ∀ (fu : Nat) (i : Nat) (S : Nat → Int32) (H : Heap) (locs : List Loc) (ls : Array Slot), (i ≤ sSz h p) → (LI (vP I p) (sSz h p) j i (X 2) S) → sSz h p - i < fu → xR g (xD h) (mW I c (rw2 X S)) (xFh h) n H → va_S (gA g) s.heap H locs → lv_has ls 5 [(0, .ref (ga g [20])), (1, .int (nI c)), (2, .int (nI j)), (3, .int (nI p)), (4, .int (nI i))] → W P_ l e_ { frames := 1, cells := 0, slots := 0, locals := 12 } s m_ ([.ref (ga g [20]), .int (nI c), .int (nI j)] : List Value).toArray bl_ mt_ cd_ H locs 0 0 (MQ bl_ (xQc g none (xR g (xD h) (mW I c (rw2 X (clE (vP I p) (sSz h p) j (X 2)))) (xFh h) n)) ([.ref (ga g [20]), .int (nI c), .int (nI j)] : List Value).toArray s 0 0 (gA g)) (F0 m_ 10 ls []) := by
    intro fu
    induction fu with
    | zero => intro i S H locs ls hi hL hfu; exact absurd hfu (Nat.not_lt_zero _)
    | succ fu ih10 =>
      intro i S H locs ls hi hL hfu hH hS hl
      refine lv_iload hx hb dX7_closes_10 (lv_at hl 4 rfl) ?_
      refine lv_aload_n hx hb dX7_closes_12 rfl (lv_at hl 0 rfl) ?_
      refine x_get (C := RX7) (T := TX7) (N := 24) (ci := 7) hx hb hts iu7 hown hK hH (id := [20]) (by first | trivial | (simp only [xD]; omega) | (simp [xD]; done) | (simp [xD]; omega)) rfl rfl (by decide) 8 (by decide) (hts _ tw847) (fun _ h9 => h9) rfl (v := .ref (ga g [24, 8])) rfl dX7_closes_13 ?_
      refine lv_iload_n hx hb dX7_closes_16 rfl (lv_at hl 3 rfl) ?_
      refine x_iald hx hb hK hH (id := [24, 8]) (by first | trivial | (simp only [xD]; omega) | (simp [xD]; done) | (simp [xD]; omega)) (L := 3) rfl (r := (I [24, 8])) rfl p rfl (by omega) (by decide) dX7_closes_17 ?_
      rw [show (I [24, 8] p) = (nI (sSz h p)) from hA.1]
      refine lv_icmp_ge (tgt := 77) hx hb dX7_closes_18 (by decide) (fun c_18 => ?_) (fun c_18 => ?_)
      · skip
        have c_18 := (nI_leI (a := (sSz h p)) (b := i) (by omega) (by omega)).mp c_18
        have e : i = sSz h p := by omega
        have hcl := clE_eq hW.pW h8 hj (show LI (vP I p) (sSz h p) j (sSz h p) (X 2) S from e ▸ hL)
        exact x_vret hx hb hr hlocks hS dX7_closes_77 (by rw [← hcl]; exact hH)
      · skip
        have c_18 : ¬ _ := fun z_ => c_18 ((nI_leI (a := (sSz h p)) (b := i) (by omega) (by omega)).mpr z_)
        refine lv_aload_n hx hb dX7_closes_21 rfl (lv_at hl 0 rfl) ?_
        refine x_get (C := RX7) (T := TX7) (N := 24) (ci := 7) hx hb hts iu7 hown hK hH (id := [20]) (by first | trivial | (simp only [xD]; omega) | (simp [xD]; done) | (simp [xD]; omega)) rfl rfl (by decide) 1 (by decide) (hts _ tw840) (fun _ h9 => h9) rfl (v := .ref (ga g [21, 1])) rfl dX7_closes_22 ?_
        refine lv_iload_n hx hb dX7_closes_25 rfl (lv_at hl 3 rfl) ?_
        refine x_aald hx hb hK hH (id := [21, 1]) (by first | trivial | (simp only [xD]; omega) | (simp [xD]; done) | (simp [xD]; omega)) 7 (L := 3) rfl (by decide) p rfl (by omega) (by decide) (v := .ref (ga g [22, 1, p])) (by show rq _ (if _ then _ else _) = _; rw [if_pos (show p < xLn 1 by show _ < 3; omega)]; rfl) dX7_closes_26 ?_
        refine lv_iload hx hb dX7_closes_27 (lv_at hl 4 rfl) ?_
        refine x_iald hx hb hK hH (id := [22, 1, p]) (by first | trivial | (simp only [xD]; omega) | (simp [xD]; done) | (simp [xD]; omega)) (L := 8) rfl (r := (I [22, 1, p])) rfl i rfl (by omega) (by decide) dX7_closes_29 ?_
        rw [show (I [22, 1, p] i) = (I [7, p, i] 1) from (hA.2 i (by omega)).2.1]
        refine lv_iload_n hx hb dX7_closes_30 rfl (lv_at hl 2 rfl) ?_
        refine lv_icmp_ne (tgt := 71) hx hb dX7_closes_31 (by decide) (fun c_31 => ?_) (fun c_31 => ?_)
        · skip
          refine lv_iinc (v := (nI (i + 1))) (lv' := [(4, .int (nI (i + 1))), (0, .ref (ga g [20])), (1, .int (nI c)), (2, .int (nI j)), (3, .int (nI p))]) hx hb dX7_closes_71 hl (k := 4) rfl (by first | rfl | exact nI_1 _ | exact nI_add _ _) (by decide) rfl (fun ls hl => ?_)
          refine lv_goto (tgt := 10) hx hb dX7_closes_74 (by decide) ?_
          exact ih10 (i + 1) S _ _ _ (by omega) (LI_no hW.pW h8 hL (by omega) (fun z => c_31 z.1)) (by omega) hH hS (lv_sub hl [1, 2, 3, 4, 0] rfl)
        · skip
          have hp := pW_pA hW.pW h8 (show i < sSz h p by omega) (pA_of (P := vP I p) (by omega) c_31).2; have hq := (pA_of (P := vP I p) (i := i) (by omega) c_31).1; omega
  exact L10 _ 0 ((X 2)) _ _ _ (Nat.zero_le _) (LI_0 _ _ _ _) (Nat.lt_succ_self _) hH hS (lv_sub hl [2, 3, 4, 1, 0] rfl)

set_option maxHeartbeats 1000000 in
set_option maxRecDepth 100000 in
theorem c_X7_becomes_0_120 (l : Launch) (g : xG) (h : xS) (I : xI) (n c : Nat) (X : xX) (hc : c < 4) (p : Nat) (hpp : p < 3) (hpo : I [24, 11] c = nI p) (hA : mA h I p) (hW : xWp h I p) (k : Nat) (hk : k < sSz h p) (hlv : sSz h p ≤ k + 1 + 0)  : xM l yX7_becomes (xws yX7_becomes cX7_becomes 4 none) 2 36 g [.ref (ga g [20]), .int (nI c), .int (nI k), .int 120] (xR g (xD h) (mW I c X) (xFh h) n) none (xR g (xD h) (mW I c (sEnd (vP I p) (sSz h p) X k 120)) (xFh h) n) 0 0 := by
  refine xM.of (by decide) (Nat.le_of_ble_eq_true rfl) ?_
  intro P_ e_ s m_ bl_ mt_ cd_ ls hx hb hr hown hlocks hml hnm hE hK hts hH hS hl
  have hl : lv_has ls 4 [(0, .ref (ga g [20])), (1, .int (nI c)), (2, .int (nI k)), (3, .int 120)] := hl
  have h8 := hW.1
  refine lv_aload_n hx hb dX7_becomes_0 rfl (lv_at hl 0 rfl) ?_
  refine x_get (C := RX7) (T := TX7) (N := 24) (ci := 7) hx hb hts iu7 hown hK hH (id := [20]) (by first | trivial | (simp only [xD]; omega) | (simp [xD]; done) | (simp [xD]; omega)) rfl rfl (by decide) 14 (by decide) (hts _ tw853) (fun _ h9 => h9) rfl (v := .ref (ga g [21, 14])) rfl dX7_becomes_1 ?_
  refine lv_iload_n hx hb dX7_becomes_4 rfl (lv_at hl 1 rfl) ?_
  refine x_aald hx hb hK hH (id := [21, 14]) (by first | trivial | (simp only [xD]; omega) | (simp [xD]; done) | (simp [xD]; omega)) 8 (L := 4) rfl (by decide) c rfl (by omega) (by decide) (v := .ref (ga g [22, 14, c])) (by show rq _ (if _ then _ else _) = _; rw [if_pos (show c < xLn 14 by show _ < 4; omega)]; rfl) dX7_becomes_5 ?_
  refine lv_iload_n hx hb dX7_becomes_6 rfl (lv_at hl 2 rfl) ?_
  refine lv_iload_n hx hb dX7_becomes_7 rfl (lv_at hl 3 rfl) ?_
  obtain ⟨X1_, hX1_⟩ : ∃ z, z = up2 X 2 k 120 := ⟨_, rfl⟩
  refine x_cast hx hb hK hH hS (id := [22, 14, c]) (by first | trivial | (simp only [xD]; omega) | (simp [xD]; done) | (simp [xD]; omega)) (L := 8) rfl k rfl (by omega) (by decide) (by rfl) ((mW_u2 _ _ _ _ _).trans (congrArg (mW I c) hX1_.symm)) dX7_becomes_8 (fun H locs hH hS => ?_)
  refine lv_aload_n hx hb dX7_becomes_9 rfl (lv_at hl 0 rfl) ?_
  refine x_get (C := RX7) (T := TX7) (N := 24) (ci := 7) hx hb hts iu7 hown hK hH (id := [20]) (by first | trivial | (simp only [xD]; omega) | (simp [xD]; done) | (simp [xD]; omega)) rfl rfl (by decide) 0 (by decide) (hts _ tw839) (fun _ h9 => h9) rfl (v := .ref (ga g [21, 0])) rfl dX7_becomes_10 ?_
  refine lv_aload_n hx hb dX7_becomes_13 rfl (lv_at hl 0 rfl) ?_
  refine x_get (C := RX7) (T := TX7) (N := 24) (ci := 7) hx hb hts iu7 hown hK hH (id := [20]) (by first | trivial | (simp only [xD]; omega) | (simp [xD]; done) | (simp [xD]; omega)) rfl rfl (by decide) 11 (by decide) (hts _ tw850) (fun _ h9 => h9) rfl (v := .ref (ga g [24, 11])) rfl dX7_becomes_14 ?_
  refine lv_iload_n hx hb dX7_becomes_17 rfl (lv_at hl 1 rfl) ?_
  refine x_iald hx hb hK hH (id := [24, 11]) (by first | trivial | (simp only [xD]; omega) | (simp [xD]; done) | (simp [xD]; omega)) (L := 4) rfl (r := (I [24, 11])) rfl c rfl (by omega) (by decide) dX7_becomes_18 ?_
  rw [show (I [24, 11] c) = (nI p) from hpo]
  refine x_aald hx hb hK hH (id := [21, 0]) (by first | trivial | (simp only [xD]; omega) | (simp [xD]; done) | (simp [xD]; omega)) 8 (L := 3) rfl (by decide) p rfl (by omega) (by decide) (v := .ref (ga g [22, 0, p])) (by show rq _ (if _ then _ else _) = _; rw [if_pos (show p < xLn 0 by show _ < 3; omega)]; rfl) dX7_becomes_19 ?_
  refine lv_iload_n hx hb dX7_becomes_20 rfl (lv_at hl 2 rfl) ?_
  refine x_cald hx hb hK hH (id := [22, 0, p]) (by first | trivial | (simp only [xD]; omega) | (simp [xD]; done) | (simp [xD]; omega)) (L := 8) rfl (r := (I [22, 0, p])) rfl k rfl (by omega) (by decide) dX7_becomes_21 ?_
  rw [show (I [22, 0, p] k) = (I [7, p, k] 0) from (hA.2 k (by omega)).1]
  refine lv_bipush (v := 115) hx hb dX7_becomes_22 (by decide) ?_
  refine lv_icmp_ne (tgt := 45) hx hb dX7_becomes_24 (by decide) (fun c_24 => ?_) (fun c_24 => ?_)
  · skip
    exact x_vret hx hb hr hlocks hS dX7_becomes_45 (by rw [sEnd_cl, ← clE_eq hW.pW h8 hk (LI_self (hW.leaf c_24)), ← up2_rw2, ← hX1_]; exact hH)
  · skip
    refine lv_iload_n hx hb dX7_becomes_27 rfl (lv_at hl 3 rfl) ?_
    refine lv_bipush (v := 99) hx hb dX7_becomes_28 (by decide) ?_
    refine lv_icmp_eq (tgt := 39) hx hb dX7_becomes_30 (by decide) (fun q_ => absurd q_ (by decide)) (fun _ => ?_)
    refine lv_iload_n hx hb dX7_becomes_33 rfl (lv_at hl 3 rfl) ?_
    refine lv_bipush (v := 120) hx hb dX7_becomes_34 (by decide) ?_
    refine lv_icmp_ne (tgt := 45) hx hb dX7_becomes_36 (by decide) (fun q_ => absurd (by decide) q_) (fun _ => ?_)
    refine lv_aload_n hx hb dX7_becomes_39 rfl (lv_at hl 0 rfl) ?_
    refine lv_iload_n hx hb dX7_becomes_40 rfl (lv_at hl 1 rfl) ?_
    refine lv_iload_n hx hb dX7_becomes_41 rfl (lv_at hl 2 rfl) ?_
    refine x_V0 hx hb hml hown hE hS hl.1 cyX7_closes tw1004 (c_X7_closes_0 l g h I n c X1_ hc p hpp hpo hA hW k hk hlv) ⟨Nat.le_of_ble_eq_true rfl, Nat.le_of_ble_eq_true rfl⟩ ⟨Nat.le_of_ble_eq_true rfl, Nat.le_of_ble_eq_true rfl⟩ (x_recv hK hH (id := [20]) (by first | trivial | (simp only [xD]; omega) | (simp [xD]; done) | (simp [xD]; omega)) (ci := 7) rfl (by decide) rfl) hH rfl rfl (Nat.le_of_ble_eq_true rfl) dX7_becomes_42 (fun H locs hH hS => ?_)
    exact x_vret hx hb hr hlocks hS dX7_becomes_45 (by rw [hX1_, rw2_up2, up2_row] at hH; exact hH)

set_option maxHeartbeats 1000000 in
set_option maxRecDepth 100000 in
theorem c_X7_closes_1 (l : Launch) (g : xG) (h : xS) (I : xI) (n c : Nat) (X : xX) (hc : c < 4) (p : Nat) (hpp : p < 3) (hpo : I [24, 11] c = nI p) (hA : mA h I p) (hW : xWp h I p) (j : Nat) (hj : j < sSz h p) (hlv : sSz h p ≤ j + 1 + 1)  : xM l yX7_closes (xws yX7_closes cX7_closes 5 none) 3 59 g [.ref (ga g [20]), .int (nI c), .int (nI j)] (xR g (xD h) (mW I c X) (xFh h) n) none (xR g (xD h) (mW I c (rw2 X (clE (vP I p) (sSz h p) j (X 2)))) (xFh h) n) 0 0 := by
  refine xM.of (by decide) (Nat.le_of_ble_eq_true rfl) ?_
  intro P_ e_ s m_ bl_ mt_ cd_ ls hx hb hr hown hlocks hml hnm hE hK hts hH hS hl
  have hl : lv_has ls 5 [(0, .ref (ga g [20])), (1, .int (nI c)), (2, .int (nI j))] := hl
  have h8 := hW.1
  refine lv_aload_n hx hb dX7_closes_0 rfl (lv_at hl 0 rfl) ?_
  refine x_get (C := RX7) (T := TX7) (N := 24) (ci := 7) hx hb hts iu7 hown hK hH (id := [20]) (by first | trivial | (simp only [xD]; omega) | (simp [xD]; done) | (simp [xD]; omega)) rfl rfl (by decide) 11 (by decide) (hts _ tw850) (fun _ h9 => h9) rfl (v := .ref (ga g [24, 11])) rfl dX7_closes_1 ?_
  refine lv_iload_n hx hb dX7_closes_4 rfl (lv_at hl 1 rfl) ?_
  refine x_iald hx hb hK hH (id := [24, 11]) (by first | trivial | (simp only [xD]; omega) | (simp [xD]; done) | (simp [xD]; omega)) (L := 4) rfl (r := (I [24, 11])) rfl c rfl (by omega) (by decide) dX7_closes_5 ?_
  rw [show (I [24, 11] c) = (nI p) from hpo]
  refine lv_istore_n (lv' := [(3, .int (nI p)), (0, .ref (ga g [20])), (1, .int (nI c)), (2, .int (nI j))]) hx hb dX7_closes_6 rfl hl (by decide) rfl (fun ls hl => ?_)
  refine lv_iconst (v := 0) hx hb dX7_closes_7 (by decide) ?_
  refine lv_istore (lv' := [(4, .int 0), (3, .int (nI p)), (0, .ref (ga g [20])), (1, .int (nI c)), (2, .int (nI j))]) hx hb dX7_closes_8 hl (by decide) rfl (fun ls hl => ?_)
  have hH : xR g (xD h) (mW I c (rw2 X (X 2))) (xFh h) n s.heap := by rw [rw2_self]; exact hH
  have L10 : ∀ (fu : Nat) (i : Nat) (S : Nat → Int32) (H : Heap) (locs : List Loc) (ls : Array Slot), (i ≤ sSz h p) → (LI (vP I p) (sSz h p) j i (X 2) S) → sSz h p - i < fu → xR g (xD h) (mW I c (rw2 X S)) (xFh h) n H → va_S (gA g) s.heap H locs → lv_has ls 5 [(0, .ref (ga g [20])), (1, .int (nI c)), (2, .int (nI j)), (3, .int (nI p)), (4, .int (nI i))] → W P_ l e_ { frames := 3, cells := 0, slots := 0, locals := 59 } s m_ ([.ref (ga g [20]), .int (nI c), .int (nI j)] : List Value).toArray bl_ mt_ cd_ H locs 0 0 (MQ bl_ (xQc g none (xR g (xD h) (mW I c (rw2 X (clE (vP I p) (sSz h p) j (X 2)))) (xFh h) n)) ([.ref (ga g [20]), .int (nI c), .int (nI j)] : List Value).toArray s 0 0 (gA g)) (F0 m_ 10 ls []) := by
    intro fu
    induction fu with
    | zero => intro i S H locs ls hi hL hfu; exact absurd hfu (Nat.not_lt_zero _)
    | succ fu ih10 =>
      intro i S H locs ls hi hL hfu hH hS hl
      refine lv_iload hx hb dX7_closes_10 (lv_at hl 4 rfl) ?_
      refine lv_aload_n hx hb dX7_closes_12 rfl (lv_at hl 0 rfl) ?_
      refine x_get (C := RX7) (T := TX7) (N := 24) (ci := 7) hx hb hts iu7 hown hK hH (id := [20]) (by first | trivial | (simp only [xD]; omega) | (simp [xD]; done) | (simp [xD]; omega)) rfl rfl (by decide) 8 (by decide) (hts _ tw847) (fun _ h9 => h9) rfl (v := .ref (ga g [24, 8])) rfl dX7_closes_13 ?_
      refine lv_iload_n hx hb dX7_closes_16 rfl (lv_at hl 3 rfl) ?_
      refine x_iald hx hb hK hH (id := [24, 8]) (by first | trivial | (simp only [xD]; omega) | (simp [xD]; done) | (simp [xD]; omega)) (L := 3) rfl (r := (I [24, 8])) rfl p rfl (by omega) (by decide) dX7_closes_17 ?_
      rw [show (I [24, 8] p) = (nI (sSz h p)) from hA.1]
      refine lv_icmp_ge (tgt := 77) hx hb dX7_closes_18 (by decide) (fun c_18 => ?_) (fun c_18 => ?_)
      · skip
        have c_18 := (nI_leI (a := (sSz h p)) (b := i) (by omega) (by omega)).mp c_18
        have e : i = sSz h p := by omega
        have hcl := clE_eq hW.pW h8 hj (show LI (vP I p) (sSz h p) j (sSz h p) (X 2) S from e ▸ hL)
        exact x_vret hx hb hr hlocks hS dX7_closes_77 (by rw [← hcl]; exact hH)
      · skip
        have c_18 : ¬ _ := fun z_ => c_18 ((nI_leI (a := (sSz h p)) (b := i) (by omega) (by omega)).mpr z_)
        refine lv_aload_n hx hb dX7_closes_21 rfl (lv_at hl 0 rfl) ?_
        refine x_get (C := RX7) (T := TX7) (N := 24) (ci := 7) hx hb hts iu7 hown hK hH (id := [20]) (by first | trivial | (simp only [xD]; omega) | (simp [xD]; done) | (simp [xD]; omega)) rfl rfl (by decide) 1 (by decide) (hts _ tw840) (fun _ h9 => h9) rfl (v := .ref (ga g [21, 1])) rfl dX7_closes_22 ?_
        refine lv_iload_n hx hb dX7_closes_25 rfl (lv_at hl 3 rfl) ?_
        refine x_aald hx hb hK hH (id := [21, 1]) (by first | trivial | (simp only [xD]; omega) | (simp [xD]; done) | (simp [xD]; omega)) 7 (L := 3) rfl (by decide) p rfl (by omega) (by decide) (v := .ref (ga g [22, 1, p])) (by show rq _ (if _ then _ else _) = _; rw [if_pos (show p < xLn 1 by show _ < 3; omega)]; rfl) dX7_closes_26 ?_
        refine lv_iload hx hb dX7_closes_27 (lv_at hl 4 rfl) ?_
        refine x_iald hx hb hK hH (id := [22, 1, p]) (by first | trivial | (simp only [xD]; omega) | (simp [xD]; done) | (simp [xD]; omega)) (L := 8) rfl (r := (I [22, 1, p])) rfl i rfl (by omega) (by decide) dX7_closes_29 ?_
        rw [show (I [22, 1, p] i) = (I [7, p, i] 1) from (hA.2 i (by omega)).2.1]
        refine lv_iload_n hx hb dX7_closes_30 rfl (lv_at hl 2 rfl) ?_
        refine lv_icmp_ne (tgt := 71) hx hb dX7_closes_31 (by decide) (fun c_31 => ?_) (fun c_31 => ?_)
        · skip
          refine lv_iinc (v := (nI (i + 1))) (lv' := [(4, .int (nI (i + 1))), (0, .ref (ga g [20])), (1, .int (nI c)), (2, .int (nI j)), (3, .int (nI p))]) hx hb dX7_closes_71 hl (k := 4) rfl (by first | rfl | exact nI_1 _ | exact nI_add _ _) (by decide) rfl (fun ls hl => ?_)
          refine lv_goto (tgt := 10) hx hb dX7_closes_74 (by decide) ?_
          exact ih10 (i + 1) S _ _ _ (by omega) (LI_no hW.pW h8 hL (by omega) (fun z => c_31 z.1)) (by omega) hH hS (lv_sub hl [1, 2, 3, 4, 0] rfl)
        · skip
          refine lv_aload_n hx hb dX7_closes_34 rfl (lv_at hl 0 rfl) ?_
          refine x_get (C := RX7) (T := TX7) (N := 24) (ci := 7) hx hb hts iu7 hown hK hH (id := [20]) (by first | trivial | (simp only [xD]; omega) | (simp [xD]; done) | (simp [xD]; omega)) rfl rfl (by decide) 14 (by decide) (hts _ tw853) (fun _ h9 => h9) rfl (v := .ref (ga g [21, 14])) rfl dX7_closes_35 ?_
          refine lv_iload_n hx hb dX7_closes_38 rfl (lv_at hl 1 rfl) ?_
          refine x_aald hx hb hK hH (id := [21, 14]) (by first | trivial | (simp only [xD]; omega) | (simp [xD]; done) | (simp [xD]; omega)) 8 (L := 4) rfl (by decide) c rfl (by omega) (by decide) (v := .ref (ga g [22, 14, c])) (by show rq _ (if _ then _ else _) = _; rw [if_pos (show c < xLn 14 by show _ < 4; omega)]; rfl) dX7_closes_39 ?_
          refine lv_iload hx hb dX7_closes_40 (lv_at hl 4 rfl) ?_
          refine x_cald hx hb hK hH (id := [22, 14, c]) (by first | trivial | (simp only [xD]; omega) | (simp [xD]; done) | (simp [xD]; omega)) (L := 8) rfl (r := ((rw2 X S) 2)) (mW_r2 _ _ _) i rfl (by omega) (by decide) dX7_closes_42 ?_
          rw [show ((rw2 X S) 2 i) = (S i) from rfl]
          refine lv_bipush (v := 105) hx hb dX7_closes_43 (by decide) ?_
          refine lv_icmp_eq (tgt := 62) hx hb dX7_closes_45 (by decide) (fun c_45 => ?_) (fun c_45 => ?_)
          · skip
            refine lv_aload_n hx hb dX7_closes_62 rfl (lv_at hl 0 rfl) ?_
            refine lv_iload_n hx hb dX7_closes_63 rfl (lv_at hl 1 rfl) ?_
            refine lv_iload hx hb dX7_closes_64 (lv_at hl 4 rfl) ?_
            refine lv_bipush (v := 120) hx hb dX7_closes_66 (by decide) ?_
            refine x_V0 hx hb hml hown hE hS hl.1 cyX7_becomes tw1000 (c_X7_becomes_0_120 l g h I n c (rw2 X S) hc p hpp hpo hA hW i (by omega) (by have hp := pW_pA hW.pW h8 (show i < sSz h p by omega) (pA_of (P := vP I p) (by omega) c_31).2; have hq := (pA_of (P := vP I p) (i := i) (by omega) c_31).1; omega)) ⟨Nat.le_of_ble_eq_true rfl, Nat.le_of_ble_eq_true rfl⟩ ⟨Nat.le_of_ble_eq_true rfl, Nat.le_of_ble_eq_true rfl⟩ (x_recv hK hH (id := [20]) (by first | trivial | (simp only [xD]; omega) | (simp [xD]; done) | (simp [xD]; omega)) (ci := 7) rfl (by decide) rfl) hH rfl rfl (Nat.le_of_ble_eq_true rfl) dX7_closes_68 (fun H locs hH hS => ?_)
            rw [sEnd_rw2] at hH
            refine lv_iinc (v := (nI (i + 1))) (lv' := [(4, .int (nI (i + 1))), (0, .ref (ga g [20])), (1, .int (nI c)), (2, .int (nI j)), (3, .int (nI p))]) hx hb dX7_closes_71 hl (k := 4) rfl (by first | rfl | exact nI_1 _ | exact nI_add _ _) (by decide) rfl (fun ls hl => ?_)
            refine lv_goto (tgt := 10) hx hb dX7_closes_74 (by decide) ?_
            exact ih10 (i + 1) ((clE (vP I p) (sSz h p) i (fun q => if q = i then 120 else S q))) _ _ _ (by omega) (LI_yes hW.pW h8 hL (by omega) (by omega) c_31 (Or.inl c_45) (clE_LI _ hW.pW h8 (by omega))) (by omega) hH hS (lv_sub hl [1, 2, 3, 4, 0] rfl)
          · skip
            refine lv_aload_n hx hb dX7_closes_48 rfl (lv_at hl 0 rfl) ?_
            refine x_get (C := RX7) (T := TX7) (N := 24) (ci := 7) hx hb hts iu7 hown hK hH (id := [20]) (by first | trivial | (simp only [xD]; omega) | (simp [xD]; done) | (simp [xD]; omega)) rfl rfl (by decide) 14 (by decide) (hts _ tw853) (fun _ h9 => h9) rfl (v := .ref (ga g [21, 14])) rfl dX7_closes_49 ?_
            refine lv_iload_n hx hb dX7_closes_52 rfl (lv_at hl 1 rfl) ?_
            refine x_aald hx hb hK hH (id := [21, 14]) (by first | trivial | (simp only [xD]; omega) | (simp [xD]; done) | (simp [xD]; omega)) 8 (L := 4) rfl (by decide) c rfl (by omega) (by decide) (v := .ref (ga g [22, 14, c])) (by show rq _ (if _ then _ else _) = _; rw [if_pos (show c < xLn 14 by show _ < 4; omega)]; rfl) dX7_closes_53 ?_
            refine lv_iload hx hb dX7_closes_54 (lv_at hl 4 rfl) ?_
            refine x_cald hx hb hK hH (id := [22, 14, c]) (by first | trivial | (simp only [xD]; omega) | (simp [xD]; done) | (simp [xD]; omega)) (L := 8) rfl (r := ((rw2 X S) 2)) (mW_r2 _ _ _) i rfl (by omega) (by decide) dX7_closes_56 ?_
            rw [show ((rw2 X S) 2 i) = (S i) from rfl]
            refine lv_bipush (v := 97) hx hb dX7_closes_57 (by decide) ?_
            refine lv_icmp_ne (tgt := 71) hx hb dX7_closes_59 (by decide) (fun c_59 => ?_) (fun c_59 => ?_)
            · skip
              refine lv_iinc (v := (nI (i + 1))) (lv' := [(4, .int (nI (i + 1))), (0, .ref (ga g [20])), (1, .int (nI c)), (2, .int (nI j)), (3, .int (nI p))]) hx hb dX7_closes_71 hl (k := 4) rfl (by first | rfl | exact nI_1 _ | exact nI_add _ _) (by decide) rfl (fun ls hl => ?_)
              refine lv_goto (tgt := 10) hx hb dX7_closes_74 (by decide) ?_
              exact ih10 (i + 1) S _ _ _ (by omega) (LI_no hW.pW h8 hL (by omega) (fun z => z.2.elim c_45 c_59)) (by omega) hH hS (lv_sub hl [1, 2, 3, 4, 0] rfl)
            · skip
              refine lv_aload_n hx hb dX7_closes_62 rfl (lv_at hl 0 rfl) ?_
              refine lv_iload_n hx hb dX7_closes_63 rfl (lv_at hl 1 rfl) ?_
              refine lv_iload hx hb dX7_closes_64 (lv_at hl 4 rfl) ?_
              refine lv_bipush (v := 120) hx hb dX7_closes_66 (by decide) ?_
              refine x_V0 hx hb hml hown hE hS hl.1 cyX7_becomes tw1000 (c_X7_becomes_0_120 l g h I n c (rw2 X S) hc p hpp hpo hA hW i (by omega) (by have hp := pW_pA hW.pW h8 (show i < sSz h p by omega) (pA_of (P := vP I p) (by omega) c_31).2; have hq := (pA_of (P := vP I p) (i := i) (by omega) c_31).1; omega)) ⟨Nat.le_of_ble_eq_true rfl, Nat.le_of_ble_eq_true rfl⟩ ⟨Nat.le_of_ble_eq_true rfl, Nat.le_of_ble_eq_true rfl⟩ (x_recv hK hH (id := [20]) (by first | trivial | (simp only [xD]; omega) | (simp [xD]; done) | (simp [xD]; omega)) (ci := 7) rfl (by decide) rfl) hH rfl rfl (Nat.le_of_ble_eq_true rfl) dX7_closes_68 (fun H locs hH hS => ?_)
              rw [sEnd_rw2] at hH
              refine lv_iinc (v := (nI (i + 1))) (lv' := [(4, .int (nI (i + 1))), (0, .ref (ga g [20])), (1, .int (nI c)), (2, .int (nI j)), (3, .int (nI p))]) hx hb dX7_closes_71 hl (k := 4) rfl (by first | rfl | exact nI_1 _ | exact nI_add _ _) (by decide) rfl (fun ls hl => ?_)
              refine lv_goto (tgt := 10) hx hb dX7_closes_74 (by decide) ?_
              exact ih10 (i + 1) ((clE (vP I p) (sSz h p) i (fun q => if q = i then 120 else S q))) _ _ _ (by omega) (LI_yes hW.pW h8 hL (by omega) (by omega) c_31 (Or.inr c_59) (clE_LI _ hW.pW h8 (by omega))) (by omega) hH hS (lv_sub hl [1, 2, 3, 4, 0] rfl)
  exact L10 _ 0 ((X 2)) _ _ _ (Nat.zero_le _) (LI_0 _ _ _ _) (Nat.lt_succ_self _) hH hS (lv_sub hl [2, 3, 4, 1, 0] rfl)

set_option maxHeartbeats 1000000 in
set_option maxRecDepth 100000 in
theorem c_X7_becomes_1_120 (l : Launch) (g : xG) (h : xS) (I : xI) (n c : Nat) (X : xX) (hc : c < 4) (p : Nat) (hpp : p < 3) (hpo : I [24, 11] c = nI p) (hA : mA h I p) (hW : xWp h I p) (k : Nat) (hk : k < sSz h p) (hlv : sSz h p ≤ k + 1 + 1)  : xM l yX7_becomes (xws yX7_becomes cX7_becomes 4 none) 4 83 g [.ref (ga g [20]), .int (nI c), .int (nI k), .int 120] (xR g (xD h) (mW I c X) (xFh h) n) none (xR g (xD h) (mW I c (sEnd (vP I p) (sSz h p) X k 120)) (xFh h) n) 0 0 := by
  refine xM.of (by decide) (Nat.le_of_ble_eq_true rfl) ?_
  intro P_ e_ s m_ bl_ mt_ cd_ ls hx hb hr hown hlocks hml hnm hE hK hts hH hS hl
  have hl : lv_has ls 4 [(0, .ref (ga g [20])), (1, .int (nI c)), (2, .int (nI k)), (3, .int 120)] := hl
  have h8 := hW.1
  refine lv_aload_n hx hb dX7_becomes_0 rfl (lv_at hl 0 rfl) ?_
  refine x_get (C := RX7) (T := TX7) (N := 24) (ci := 7) hx hb hts iu7 hown hK hH (id := [20]) (by first | trivial | (simp only [xD]; omega) | (simp [xD]; done) | (simp [xD]; omega)) rfl rfl (by decide) 14 (by decide) (hts _ tw853) (fun _ h9 => h9) rfl (v := .ref (ga g [21, 14])) rfl dX7_becomes_1 ?_
  refine lv_iload_n hx hb dX7_becomes_4 rfl (lv_at hl 1 rfl) ?_
  refine x_aald hx hb hK hH (id := [21, 14]) (by first | trivial | (simp only [xD]; omega) | (simp [xD]; done) | (simp [xD]; omega)) 8 (L := 4) rfl (by decide) c rfl (by omega) (by decide) (v := .ref (ga g [22, 14, c])) (by show rq _ (if _ then _ else _) = _; rw [if_pos (show c < xLn 14 by show _ < 4; omega)]; rfl) dX7_becomes_5 ?_
  refine lv_iload_n hx hb dX7_becomes_6 rfl (lv_at hl 2 rfl) ?_
  refine lv_iload_n hx hb dX7_becomes_7 rfl (lv_at hl 3 rfl) ?_
  obtain ⟨X1_, hX1_⟩ : ∃ z, z = up2 X 2 k 120 := ⟨_, rfl⟩
  refine x_cast hx hb hK hH hS (id := [22, 14, c]) (by first | trivial | (simp only [xD]; omega) | (simp [xD]; done) | (simp [xD]; omega)) (L := 8) rfl k rfl (by omega) (by decide) (by rfl) ((mW_u2 _ _ _ _ _).trans (congrArg (mW I c) hX1_.symm)) dX7_becomes_8 (fun H locs hH hS => ?_)
  refine lv_aload_n hx hb dX7_becomes_9 rfl (lv_at hl 0 rfl) ?_
  refine x_get (C := RX7) (T := TX7) (N := 24) (ci := 7) hx hb hts iu7 hown hK hH (id := [20]) (by first | trivial | (simp only [xD]; omega) | (simp [xD]; done) | (simp [xD]; omega)) rfl rfl (by decide) 0 (by decide) (hts _ tw839) (fun _ h9 => h9) rfl (v := .ref (ga g [21, 0])) rfl dX7_becomes_10 ?_
  refine lv_aload_n hx hb dX7_becomes_13 rfl (lv_at hl 0 rfl) ?_
  refine x_get (C := RX7) (T := TX7) (N := 24) (ci := 7) hx hb hts iu7 hown hK hH (id := [20]) (by first | trivial | (simp only [xD]; omega) | (simp [xD]; done) | (simp [xD]; omega)) rfl rfl (by decide) 11 (by decide) (hts _ tw850) (fun _ h9 => h9) rfl (v := .ref (ga g [24, 11])) rfl dX7_becomes_14 ?_
  refine lv_iload_n hx hb dX7_becomes_17 rfl (lv_at hl 1 rfl) ?_
  refine x_iald hx hb hK hH (id := [24, 11]) (by first | trivial | (simp only [xD]; omega) | (simp [xD]; done) | (simp [xD]; omega)) (L := 4) rfl (r := (I [24, 11])) rfl c rfl (by omega) (by decide) dX7_becomes_18 ?_
  rw [show (I [24, 11] c) = (nI p) from hpo]
  refine x_aald hx hb hK hH (id := [21, 0]) (by first | trivial | (simp only [xD]; omega) | (simp [xD]; done) | (simp [xD]; omega)) 8 (L := 3) rfl (by decide) p rfl (by omega) (by decide) (v := .ref (ga g [22, 0, p])) (by show rq _ (if _ then _ else _) = _; rw [if_pos (show p < xLn 0 by show _ < 3; omega)]; rfl) dX7_becomes_19 ?_
  refine lv_iload_n hx hb dX7_becomes_20 rfl (lv_at hl 2 rfl) ?_
  refine x_cald hx hb hK hH (id := [22, 0, p]) (by first | trivial | (simp only [xD]; omega) | (simp [xD]; done) | (simp [xD]; omega)) (L := 8) rfl (r := (I [22, 0, p])) rfl k rfl (by omega) (by decide) dX7_becomes_21 ?_
  rw [show (I [22, 0, p] k) = (I [7, p, k] 0) from (hA.2 k (by omega)).1]
  refine lv_bipush (v := 115) hx hb dX7_becomes_22 (by decide) ?_
  refine lv_icmp_ne (tgt := 45) hx hb dX7_becomes_24 (by decide) (fun c_24 => ?_) (fun c_24 => ?_)
  · skip
    exact x_vret hx hb hr hlocks hS dX7_becomes_45 (by rw [sEnd_cl, ← clE_eq hW.pW h8 hk (LI_self (hW.leaf c_24)), ← up2_rw2, ← hX1_]; exact hH)
  · skip
    refine lv_iload_n hx hb dX7_becomes_27 rfl (lv_at hl 3 rfl) ?_
    refine lv_bipush (v := 99) hx hb dX7_becomes_28 (by decide) ?_
    refine lv_icmp_eq (tgt := 39) hx hb dX7_becomes_30 (by decide) (fun q_ => absurd q_ (by decide)) (fun _ => ?_)
    refine lv_iload_n hx hb dX7_becomes_33 rfl (lv_at hl 3 rfl) ?_
    refine lv_bipush (v := 120) hx hb dX7_becomes_34 (by decide) ?_
    refine lv_icmp_ne (tgt := 45) hx hb dX7_becomes_36 (by decide) (fun q_ => absurd (by decide) q_) (fun _ => ?_)
    refine lv_aload_n hx hb dX7_becomes_39 rfl (lv_at hl 0 rfl) ?_
    refine lv_iload_n hx hb dX7_becomes_40 rfl (lv_at hl 1 rfl) ?_
    refine lv_iload_n hx hb dX7_becomes_41 rfl (lv_at hl 2 rfl) ?_
    refine x_V0 hx hb hml hown hE hS hl.1 cyX7_closes tw1004 (c_X7_closes_1 l g h I n c X1_ hc p hpp hpo hA hW k hk hlv) ⟨Nat.le_of_ble_eq_true rfl, Nat.le_of_ble_eq_true rfl⟩ ⟨Nat.le_of_ble_eq_true rfl, Nat.le_of_ble_eq_true rfl⟩ (x_recv hK hH (id := [20]) (by first | trivial | (simp only [xD]; omega) | (simp [xD]; done) | (simp [xD]; omega)) (ci := 7) rfl (by decide) rfl) hH rfl rfl (Nat.le_of_ble_eq_true rfl) dX7_becomes_42 (fun H locs hH hS => ?_)
    exact x_vret hx hb hr hlocks hS dX7_becomes_45 (by rw [hX1_, rw2_up2, up2_row] at hH; exact hH)

set_option maxHeartbeats 1000000 in
set_option maxRecDepth 100000 in
theorem c_X7_closes_2 (l : Launch) (g : xG) (h : xS) (I : xI) (n c : Nat) (X : xX) (hc : c < 4) (p : Nat) (hpp : p < 3) (hpo : I [24, 11] c = nI p) (hA : mA h I p) (hW : xWp h I p) (j : Nat) (hj : j < sSz h p) (hlv : sSz h p ≤ j + 1 + 2)  : xM l yX7_closes (xws yX7_closes cX7_closes 5 none) 5 106 g [.ref (ga g [20]), .int (nI c), .int (nI j)] (xR g (xD h) (mW I c X) (xFh h) n) none (xR g (xD h) (mW I c (rw2 X (clE (vP I p) (sSz h p) j (X 2)))) (xFh h) n) 0 0 := by
  refine xM.of (by decide) (Nat.le_of_ble_eq_true rfl) ?_
  intro P_ e_ s m_ bl_ mt_ cd_ ls hx hb hr hown hlocks hml hnm hE hK hts hH hS hl
  have hl : lv_has ls 5 [(0, .ref (ga g [20])), (1, .int (nI c)), (2, .int (nI j))] := hl
  have h8 := hW.1
  refine lv_aload_n hx hb dX7_closes_0 rfl (lv_at hl 0 rfl) ?_
  refine x_get (C := RX7) (T := TX7) (N := 24) (ci := 7) hx hb hts iu7 hown hK hH (id := [20]) (by first | trivial | (simp only [xD]; omega) | (simp [xD]; done) | (simp [xD]; omega)) rfl rfl (by decide) 11 (by decide) (hts _ tw850) (fun _ h9 => h9) rfl (v := .ref (ga g [24, 11])) rfl dX7_closes_1 ?_
  refine lv_iload_n hx hb dX7_closes_4 rfl (lv_at hl 1 rfl) ?_
  refine x_iald hx hb hK hH (id := [24, 11]) (by first | trivial | (simp only [xD]; omega) | (simp [xD]; done) | (simp [xD]; omega)) (L := 4) rfl (r := (I [24, 11])) rfl c rfl (by omega) (by decide) dX7_closes_5 ?_
  rw [show (I [24, 11] c) = (nI p) from hpo]
  refine lv_istore_n (lv' := [(3, .int (nI p)), (0, .ref (ga g [20])), (1, .int (nI c)), (2, .int (nI j))]) hx hb dX7_closes_6 rfl hl (by decide) rfl (fun ls hl => ?_)
  refine lv_iconst (v := 0) hx hb dX7_closes_7 (by decide) ?_
  refine lv_istore (lv' := [(4, .int 0), (3, .int (nI p)), (0, .ref (ga g [20])), (1, .int (nI c)), (2, .int (nI j))]) hx hb dX7_closes_8 hl (by decide) rfl (fun ls hl => ?_)
  have hH : xR g (xD h) (mW I c (rw2 X (X 2))) (xFh h) n s.heap := by rw [rw2_self]; exact hH
  have L10 : ∀ (fu : Nat) (i : Nat) (S : Nat → Int32) (H : Heap) (locs : List Loc) (ls : Array Slot), (i ≤ sSz h p) → (LI (vP I p) (sSz h p) j i (X 2) S) → sSz h p - i < fu → xR g (xD h) (mW I c (rw2 X S)) (xFh h) n H → va_S (gA g) s.heap H locs → lv_has ls 5 [(0, .ref (ga g [20])), (1, .int (nI c)), (2, .int (nI j)), (3, .int (nI p)), (4, .int (nI i))] → W P_ l e_ { frames := 5, cells := 0, slots := 0, locals := 106 } s m_ ([.ref (ga g [20]), .int (nI c), .int (nI j)] : List Value).toArray bl_ mt_ cd_ H locs 0 0 (MQ bl_ (xQc g none (xR g (xD h) (mW I c (rw2 X (clE (vP I p) (sSz h p) j (X 2)))) (xFh h) n)) ([.ref (ga g [20]), .int (nI c), .int (nI j)] : List Value).toArray s 0 0 (gA g)) (F0 m_ 10 ls []) := by
    intro fu
    induction fu with
    | zero => intro i S H locs ls hi hL hfu; exact absurd hfu (Nat.not_lt_zero _)
    | succ fu ih10 =>
      intro i S H locs ls hi hL hfu hH hS hl
      refine lv_iload hx hb dX7_closes_10 (lv_at hl 4 rfl) ?_
      refine lv_aload_n hx hb dX7_closes_12 rfl (lv_at hl 0 rfl) ?_
      refine x_get (C := RX7) (T := TX7) (N := 24) (ci := 7) hx hb hts iu7 hown hK hH (id := [20]) (by first | trivial | (simp only [xD]; omega) | (simp [xD]; done) | (simp [xD]; omega)) rfl rfl (by decide) 8 (by decide) (hts _ tw847) (fun _ h9 => h9) rfl (v := .ref (ga g [24, 8])) rfl dX7_closes_13 ?_
      refine lv_iload_n hx hb dX7_closes_16 rfl (lv_at hl 3 rfl) ?_
      refine x_iald hx hb hK hH (id := [24, 8]) (by first | trivial | (simp only [xD]; omega) | (simp [xD]; done) | (simp [xD]; omega)) (L := 3) rfl (r := (I [24, 8])) rfl p rfl (by omega) (by decide) dX7_closes_17 ?_
      rw [show (I [24, 8] p) = (nI (sSz h p)) from hA.1]
      refine lv_icmp_ge (tgt := 77) hx hb dX7_closes_18 (by decide) (fun c_18 => ?_) (fun c_18 => ?_)
      · skip
        have c_18 := (nI_leI (a := (sSz h p)) (b := i) (by omega) (by omega)).mp c_18
        have e : i = sSz h p := by omega
        have hcl := clE_eq hW.pW h8 hj (show LI (vP I p) (sSz h p) j (sSz h p) (X 2) S from e ▸ hL)
        exact x_vret hx hb hr hlocks hS dX7_closes_77 (by rw [← hcl]; exact hH)
      · skip
        have c_18 : ¬ _ := fun z_ => c_18 ((nI_leI (a := (sSz h p)) (b := i) (by omega) (by omega)).mpr z_)
        refine lv_aload_n hx hb dX7_closes_21 rfl (lv_at hl 0 rfl) ?_
        refine x_get (C := RX7) (T := TX7) (N := 24) (ci := 7) hx hb hts iu7 hown hK hH (id := [20]) (by first | trivial | (simp only [xD]; omega) | (simp [xD]; done) | (simp [xD]; omega)) rfl rfl (by decide) 1 (by decide) (hts _ tw840) (fun _ h9 => h9) rfl (v := .ref (ga g [21, 1])) rfl dX7_closes_22 ?_
        refine lv_iload_n hx hb dX7_closes_25 rfl (lv_at hl 3 rfl) ?_
        refine x_aald hx hb hK hH (id := [21, 1]) (by first | trivial | (simp only [xD]; omega) | (simp [xD]; done) | (simp [xD]; omega)) 7 (L := 3) rfl (by decide) p rfl (by omega) (by decide) (v := .ref (ga g [22, 1, p])) (by show rq _ (if _ then _ else _) = _; rw [if_pos (show p < xLn 1 by show _ < 3; omega)]; rfl) dX7_closes_26 ?_
        refine lv_iload hx hb dX7_closes_27 (lv_at hl 4 rfl) ?_
        refine x_iald hx hb hK hH (id := [22, 1, p]) (by first | trivial | (simp only [xD]; omega) | (simp [xD]; done) | (simp [xD]; omega)) (L := 8) rfl (r := (I [22, 1, p])) rfl i rfl (by omega) (by decide) dX7_closes_29 ?_
        rw [show (I [22, 1, p] i) = (I [7, p, i] 1) from (hA.2 i (by omega)).2.1]
        refine lv_iload_n hx hb dX7_closes_30 rfl (lv_at hl 2 rfl) ?_
        refine lv_icmp_ne (tgt := 71) hx hb dX7_closes_31 (by decide) (fun c_31 => ?_) (fun c_31 => ?_)
        · skip
          refine lv_iinc (v := (nI (i + 1))) (lv' := [(4, .int (nI (i + 1))), (0, .ref (ga g [20])), (1, .int (nI c)), (2, .int (nI j)), (3, .int (nI p))]) hx hb dX7_closes_71 hl (k := 4) rfl (by first | rfl | exact nI_1 _ | exact nI_add _ _) (by decide) rfl (fun ls hl => ?_)
          refine lv_goto (tgt := 10) hx hb dX7_closes_74 (by decide) ?_
          exact ih10 (i + 1) S _ _ _ (by omega) (LI_no hW.pW h8 hL (by omega) (fun z => c_31 z.1)) (by omega) hH hS (lv_sub hl [1, 2, 3, 4, 0] rfl)
        · skip
          refine lv_aload_n hx hb dX7_closes_34 rfl (lv_at hl 0 rfl) ?_
          refine x_get (C := RX7) (T := TX7) (N := 24) (ci := 7) hx hb hts iu7 hown hK hH (id := [20]) (by first | trivial | (simp only [xD]; omega) | (simp [xD]; done) | (simp [xD]; omega)) rfl rfl (by decide) 14 (by decide) (hts _ tw853) (fun _ h9 => h9) rfl (v := .ref (ga g [21, 14])) rfl dX7_closes_35 ?_
          refine lv_iload_n hx hb dX7_closes_38 rfl (lv_at hl 1 rfl) ?_
          refine x_aald hx hb hK hH (id := [21, 14]) (by first | trivial | (simp only [xD]; omega) | (simp [xD]; done) | (simp [xD]; omega)) 8 (L := 4) rfl (by decide) c rfl (by omega) (by decide) (v := .ref (ga g [22, 14, c])) (by show rq _ (if _ then _ else _) = _; rw [if_pos (show c < xLn 14 by show _ < 4; omega)]; rfl) dX7_closes_39 ?_
          refine lv_iload hx hb dX7_closes_40 (lv_at hl 4 rfl) ?_
          refine x_cald hx hb hK hH (id := [22, 14, c]) (by first | trivial | (simp only [xD]; omega) | (simp [xD]; done) | (simp [xD]; omega)) (L := 8) rfl (r := ((rw2 X S) 2)) (mW_r2 _ _ _) i rfl (by omega) (by decide) dX7_closes_42 ?_
          rw [show ((rw2 X S) 2 i) = (S i) from rfl]
          refine lv_bipush (v := 105) hx hb dX7_closes_43 (by decide) ?_
          refine lv_icmp_eq (tgt := 62) hx hb dX7_closes_45 (by decide) (fun c_45 => ?_) (fun c_45 => ?_)
          · skip
            refine lv_aload_n hx hb dX7_closes_62 rfl (lv_at hl 0 rfl) ?_
            refine lv_iload_n hx hb dX7_closes_63 rfl (lv_at hl 1 rfl) ?_
            refine lv_iload hx hb dX7_closes_64 (lv_at hl 4 rfl) ?_
            refine lv_bipush (v := 120) hx hb dX7_closes_66 (by decide) ?_
            refine x_V0 hx hb hml hown hE hS hl.1 cyX7_becomes tw1000 (c_X7_becomes_1_120 l g h I n c (rw2 X S) hc p hpp hpo hA hW i (by omega) (by have hp := pW_pA hW.pW h8 (show i < sSz h p by omega) (pA_of (P := vP I p) (by omega) c_31).2; have hq := (pA_of (P := vP I p) (i := i) (by omega) c_31).1; omega)) ⟨Nat.le_of_ble_eq_true rfl, Nat.le_of_ble_eq_true rfl⟩ ⟨Nat.le_of_ble_eq_true rfl, Nat.le_of_ble_eq_true rfl⟩ (x_recv hK hH (id := [20]) (by first | trivial | (simp only [xD]; omega) | (simp [xD]; done) | (simp [xD]; omega)) (ci := 7) rfl (by decide) rfl) hH rfl rfl (Nat.le_of_ble_eq_true rfl) dX7_closes_68 (fun H locs hH hS => ?_)
            rw [sEnd_rw2] at hH
            refine lv_iinc (v := (nI (i + 1))) (lv' := [(4, .int (nI (i + 1))), (0, .ref (ga g [20])), (1, .int (nI c)), (2, .int (nI j)), (3, .int (nI p))]) hx hb dX7_closes_71 hl (k := 4) rfl (by first | rfl | exact nI_1 _ | exact nI_add _ _) (by decide) rfl (fun ls hl => ?_)
            refine lv_goto (tgt := 10) hx hb dX7_closes_74 (by decide) ?_
            exact ih10 (i + 1) ((clE (vP I p) (sSz h p) i (fun q => if q = i then 120 else S q))) _ _ _ (by omega) (LI_yes hW.pW h8 hL (by omega) (by omega) c_31 (Or.inl c_45) (clE_LI _ hW.pW h8 (by omega))) (by omega) hH hS (lv_sub hl [1, 2, 3, 4, 0] rfl)
          · skip
            refine lv_aload_n hx hb dX7_closes_48 rfl (lv_at hl 0 rfl) ?_
            refine x_get (C := RX7) (T := TX7) (N := 24) (ci := 7) hx hb hts iu7 hown hK hH (id := [20]) (by first | trivial | (simp only [xD]; omega) | (simp [xD]; done) | (simp [xD]; omega)) rfl rfl (by decide) 14 (by decide) (hts _ tw853) (fun _ h9 => h9) rfl (v := .ref (ga g [21, 14])) rfl dX7_closes_49 ?_
            refine lv_iload_n hx hb dX7_closes_52 rfl (lv_at hl 1 rfl) ?_
            refine x_aald hx hb hK hH (id := [21, 14]) (by first | trivial | (simp only [xD]; omega) | (simp [xD]; done) | (simp [xD]; omega)) 8 (L := 4) rfl (by decide) c rfl (by omega) (by decide) (v := .ref (ga g [22, 14, c])) (by show rq _ (if _ then _ else _) = _; rw [if_pos (show c < xLn 14 by show _ < 4; omega)]; rfl) dX7_closes_53 ?_
            refine lv_iload hx hb dX7_closes_54 (lv_at hl 4 rfl) ?_
            refine x_cald hx hb hK hH (id := [22, 14, c]) (by first | trivial | (simp only [xD]; omega) | (simp [xD]; done) | (simp [xD]; omega)) (L := 8) rfl (r := ((rw2 X S) 2)) (mW_r2 _ _ _) i rfl (by omega) (by decide) dX7_closes_56 ?_
            rw [show ((rw2 X S) 2 i) = (S i) from rfl]
            refine lv_bipush (v := 97) hx hb dX7_closes_57 (by decide) ?_
            refine lv_icmp_ne (tgt := 71) hx hb dX7_closes_59 (by decide) (fun c_59 => ?_) (fun c_59 => ?_)
            · skip
              refine lv_iinc (v := (nI (i + 1))) (lv' := [(4, .int (nI (i + 1))), (0, .ref (ga g [20])), (1, .int (nI c)), (2, .int (nI j)), (3, .int (nI p))]) hx hb dX7_closes_71 hl (k := 4) rfl (by first | rfl | exact nI_1 _ | exact nI_add _ _) (by decide) rfl (fun ls hl => ?_)
              refine lv_goto (tgt := 10) hx hb dX7_closes_74 (by decide) ?_
              exact ih10 (i + 1) S _ _ _ (by omega) (LI_no hW.pW h8 hL (by omega) (fun z => z.2.elim c_45 c_59)) (by omega) hH hS (lv_sub hl [1, 2, 3, 4, 0] rfl)
            · skip
              refine lv_aload_n hx hb dX7_closes_62 rfl (lv_at hl 0 rfl) ?_
              refine lv_iload_n hx hb dX7_closes_63 rfl (lv_at hl 1 rfl) ?_
              refine lv_iload hx hb dX7_closes_64 (lv_at hl 4 rfl) ?_
              refine lv_bipush (v := 120) hx hb dX7_closes_66 (by decide) ?_
              refine x_V0 hx hb hml hown hE hS hl.1 cyX7_becomes tw1000 (c_X7_becomes_1_120 l g h I n c (rw2 X S) hc p hpp hpo hA hW i (by omega) (by have hp := pW_pA hW.pW h8 (show i < sSz h p by omega) (pA_of (P := vP I p) (by omega) c_31).2; have hq := (pA_of (P := vP I p) (i := i) (by omega) c_31).1; omega)) ⟨Nat.le_of_ble_eq_true rfl, Nat.le_of_ble_eq_true rfl⟩ ⟨Nat.le_of_ble_eq_true rfl, Nat.le_of_ble_eq_true rfl⟩ (x_recv hK hH (id := [20]) (by first | trivial | (simp only [xD]; omega) | (simp [xD]; done) | (simp [xD]; omega)) (ci := 7) rfl (by decide) rfl) hH rfl rfl (Nat.le_of_ble_eq_true rfl) dX7_closes_68 (fun H locs hH hS => ?_)
              rw [sEnd_rw2] at hH
              refine lv_iinc (v := (nI (i + 1))) (lv' := [(4, .int (nI (i + 1))), (0, .ref (ga g [20])), (1, .int (nI c)), (2, .int (nI j)), (3, .int (nI p))]) hx hb dX7_closes_71 hl (k := 4) rfl (by first | rfl | exact nI_1 _ | exact nI_add _ _) (by decide) rfl (fun ls hl => ?_)
              refine lv_goto (tgt := 10) hx hb dX7_closes_74 (by decide) ?_
              exact ih10 (i + 1) ((clE (vP I p) (sSz h p) i (fun q => if q = i then 120 else S q))) _ _ _ (by omega) (LI_yes hW.pW h8 hL (by omega) (by omega) c_31 (Or.inr c_59) (clE_LI _ hW.pW h8 (by omega))) (by omega) hH hS (lv_sub hl [1, 2, 3, 4, 0] rfl)
  exact L10 _ 0 ((X 2)) _ _ _ (Nat.zero_le _) (LI_0 _ _ _ _) (Nat.lt_succ_self _) hH hS (lv_sub hl [2, 3, 4, 1, 0] rfl)

set_option maxHeartbeats 1000000 in
set_option maxRecDepth 100000 in
theorem c_X7_becomes_2_120 (l : Launch) (g : xG) (h : xS) (I : xI) (n c : Nat) (X : xX) (hc : c < 4) (p : Nat) (hpp : p < 3) (hpo : I [24, 11] c = nI p) (hA : mA h I p) (hW : xWp h I p) (k : Nat) (hk : k < sSz h p) (hlv : sSz h p ≤ k + 1 + 2)  : xM l yX7_becomes (xws yX7_becomes cX7_becomes 4 none) 6 130 g [.ref (ga g [20]), .int (nI c), .int (nI k), .int 120] (xR g (xD h) (mW I c X) (xFh h) n) none (xR g (xD h) (mW I c (sEnd (vP I p) (sSz h p) X k 120)) (xFh h) n) 0 0 := by
  refine xM.of (by decide) (Nat.le_of_ble_eq_true rfl) ?_
  intro P_ e_ s m_ bl_ mt_ cd_ ls hx hb hr hown hlocks hml hnm hE hK hts hH hS hl
  have hl : lv_has ls 4 [(0, .ref (ga g [20])), (1, .int (nI c)), (2, .int (nI k)), (3, .int 120)] := hl
  have h8 := hW.1
  refine lv_aload_n hx hb dX7_becomes_0 rfl (lv_at hl 0 rfl) ?_
  refine x_get (C := RX7) (T := TX7) (N := 24) (ci := 7) hx hb hts iu7 hown hK hH (id := [20]) (by first | trivial | (simp only [xD]; omega) | (simp [xD]; done) | (simp [xD]; omega)) rfl rfl (by decide) 14 (by decide) (hts _ tw853) (fun _ h9 => h9) rfl (v := .ref (ga g [21, 14])) rfl dX7_becomes_1 ?_
  refine lv_iload_n hx hb dX7_becomes_4 rfl (lv_at hl 1 rfl) ?_
  refine x_aald hx hb hK hH (id := [21, 14]) (by first | trivial | (simp only [xD]; omega) | (simp [xD]; done) | (simp [xD]; omega)) 8 (L := 4) rfl (by decide) c rfl (by omega) (by decide) (v := .ref (ga g [22, 14, c])) (by show rq _ (if _ then _ else _) = _; rw [if_pos (show c < xLn 14 by show _ < 4; omega)]; rfl) dX7_becomes_5 ?_
  refine lv_iload_n hx hb dX7_becomes_6 rfl (lv_at hl 2 rfl) ?_
  refine lv_iload_n hx hb dX7_becomes_7 rfl (lv_at hl 3 rfl) ?_
  obtain ⟨X1_, hX1_⟩ : ∃ z, z = up2 X 2 k 120 := ⟨_, rfl⟩
  refine x_cast hx hb hK hH hS (id := [22, 14, c]) (by first | trivial | (simp only [xD]; omega) | (simp [xD]; done) | (simp [xD]; omega)) (L := 8) rfl k rfl (by omega) (by decide) (by rfl) ((mW_u2 _ _ _ _ _).trans (congrArg (mW I c) hX1_.symm)) dX7_becomes_8 (fun H locs hH hS => ?_)
  refine lv_aload_n hx hb dX7_becomes_9 rfl (lv_at hl 0 rfl) ?_
  refine x_get (C := RX7) (T := TX7) (N := 24) (ci := 7) hx hb hts iu7 hown hK hH (id := [20]) (by first | trivial | (simp only [xD]; omega) | (simp [xD]; done) | (simp [xD]; omega)) rfl rfl (by decide) 0 (by decide) (hts _ tw839) (fun _ h9 => h9) rfl (v := .ref (ga g [21, 0])) rfl dX7_becomes_10 ?_
  refine lv_aload_n hx hb dX7_becomes_13 rfl (lv_at hl 0 rfl) ?_
  refine x_get (C := RX7) (T := TX7) (N := 24) (ci := 7) hx hb hts iu7 hown hK hH (id := [20]) (by first | trivial | (simp only [xD]; omega) | (simp [xD]; done) | (simp [xD]; omega)) rfl rfl (by decide) 11 (by decide) (hts _ tw850) (fun _ h9 => h9) rfl (v := .ref (ga g [24, 11])) rfl dX7_becomes_14 ?_
  refine lv_iload_n hx hb dX7_becomes_17 rfl (lv_at hl 1 rfl) ?_
  refine x_iald hx hb hK hH (id := [24, 11]) (by first | trivial | (simp only [xD]; omega) | (simp [xD]; done) | (simp [xD]; omega)) (L := 4) rfl (r := (I [24, 11])) rfl c rfl (by omega) (by decide) dX7_becomes_18 ?_
  rw [show (I [24, 11] c) = (nI p) from hpo]
  refine x_aald hx hb hK hH (id := [21, 0]) (by first | trivial | (simp only [xD]; omega) | (simp [xD]; done) | (simp [xD]; omega)) 8 (L := 3) rfl (by decide) p rfl (by omega) (by decide) (v := .ref (ga g [22, 0, p])) (by show rq _ (if _ then _ else _) = _; rw [if_pos (show p < xLn 0 by show _ < 3; omega)]; rfl) dX7_becomes_19 ?_
  refine lv_iload_n hx hb dX7_becomes_20 rfl (lv_at hl 2 rfl) ?_
  refine x_cald hx hb hK hH (id := [22, 0, p]) (by first | trivial | (simp only [xD]; omega) | (simp [xD]; done) | (simp [xD]; omega)) (L := 8) rfl (r := (I [22, 0, p])) rfl k rfl (by omega) (by decide) dX7_becomes_21 ?_
  rw [show (I [22, 0, p] k) = (I [7, p, k] 0) from (hA.2 k (by omega)).1]
  refine lv_bipush (v := 115) hx hb dX7_becomes_22 (by decide) ?_
  refine lv_icmp_ne (tgt := 45) hx hb dX7_becomes_24 (by decide) (fun c_24 => ?_) (fun c_24 => ?_)
  · skip
    exact x_vret hx hb hr hlocks hS dX7_becomes_45 (by rw [sEnd_cl, ← clE_eq hW.pW h8 hk (LI_self (hW.leaf c_24)), ← up2_rw2, ← hX1_]; exact hH)
  · skip
    refine lv_iload_n hx hb dX7_becomes_27 rfl (lv_at hl 3 rfl) ?_
    refine lv_bipush (v := 99) hx hb dX7_becomes_28 (by decide) ?_
    refine lv_icmp_eq (tgt := 39) hx hb dX7_becomes_30 (by decide) (fun q_ => absurd q_ (by decide)) (fun _ => ?_)
    refine lv_iload_n hx hb dX7_becomes_33 rfl (lv_at hl 3 rfl) ?_
    refine lv_bipush (v := 120) hx hb dX7_becomes_34 (by decide) ?_
    refine lv_icmp_ne (tgt := 45) hx hb dX7_becomes_36 (by decide) (fun q_ => absurd (by decide) q_) (fun _ => ?_)
    refine lv_aload_n hx hb dX7_becomes_39 rfl (lv_at hl 0 rfl) ?_
    refine lv_iload_n hx hb dX7_becomes_40 rfl (lv_at hl 1 rfl) ?_
    refine lv_iload_n hx hb dX7_becomes_41 rfl (lv_at hl 2 rfl) ?_
    refine x_V0 hx hb hml hown hE hS hl.1 cyX7_closes tw1004 (c_X7_closes_2 l g h I n c X1_ hc p hpp hpo hA hW k hk hlv) ⟨Nat.le_of_ble_eq_true rfl, Nat.le_of_ble_eq_true rfl⟩ ⟨Nat.le_of_ble_eq_true rfl, Nat.le_of_ble_eq_true rfl⟩ (x_recv hK hH (id := [20]) (by first | trivial | (simp only [xD]; omega) | (simp [xD]; done) | (simp [xD]; omega)) (ci := 7) rfl (by decide) rfl) hH rfl rfl (Nat.le_of_ble_eq_true rfl) dX7_becomes_42 (fun H locs hH hS => ?_)
    exact x_vret hx hb hr hlocks hS dX7_becomes_45 (by rw [hX1_, rw2_up2, up2_row] at hH; exact hH)

set_option maxHeartbeats 1000000 in
set_option maxRecDepth 100000 in
theorem c_X7_closes_3 (l : Launch) (g : xG) (h : xS) (I : xI) (n c : Nat) (X : xX) (hc : c < 4) (p : Nat) (hpp : p < 3) (hpo : I [24, 11] c = nI p) (hA : mA h I p) (hW : xWp h I p) (j : Nat) (hj : j < sSz h p) (hlv : sSz h p ≤ j + 1 + 3)  : xM l yX7_closes (xws yX7_closes cX7_closes 5 none) 7 153 g [.ref (ga g [20]), .int (nI c), .int (nI j)] (xR g (xD h) (mW I c X) (xFh h) n) none (xR g (xD h) (mW I c (rw2 X (clE (vP I p) (sSz h p) j (X 2)))) (xFh h) n) 0 0 := by
  refine xM.of (by decide) (Nat.le_of_ble_eq_true rfl) ?_
  intro P_ e_ s m_ bl_ mt_ cd_ ls hx hb hr hown hlocks hml hnm hE hK hts hH hS hl
  have hl : lv_has ls 5 [(0, .ref (ga g [20])), (1, .int (nI c)), (2, .int (nI j))] := hl
  have h8 := hW.1
  refine lv_aload_n hx hb dX7_closes_0 rfl (lv_at hl 0 rfl) ?_
  refine x_get (C := RX7) (T := TX7) (N := 24) (ci := 7) hx hb hts iu7 hown hK hH (id := [20]) (by first | trivial | (simp only [xD]; omega) | (simp [xD]; done) | (simp [xD]; omega)) rfl rfl (by decide) 11 (by decide) (hts _ tw850) (fun _ h9 => h9) rfl (v := .ref (ga g [24, 11])) rfl dX7_closes_1 ?_
  refine lv_iload_n hx hb dX7_closes_4 rfl (lv_at hl 1 rfl) ?_
  refine x_iald hx hb hK hH (id := [24, 11]) (by first | trivial | (simp only [xD]; omega) | (simp [xD]; done) | (simp [xD]; omega)) (L := 4) rfl (r := (I [24, 11])) rfl c rfl (by omega) (by decide) dX7_closes_5 ?_
  rw [show (I [24, 11] c) = (nI p) from hpo]
  refine lv_istore_n (lv' := [(3, .int (nI p)), (0, .ref (ga g [20])), (1, .int (nI c)), (2, .int (nI j))]) hx hb dX7_closes_6 rfl hl (by decide) rfl (fun ls hl => ?_)
  refine lv_iconst (v := 0) hx hb dX7_closes_7 (by decide) ?_
  refine lv_istore (lv' := [(4, .int 0), (3, .int (nI p)), (0, .ref (ga g [20])), (1, .int (nI c)), (2, .int (nI j))]) hx hb dX7_closes_8 hl (by decide) rfl (fun ls hl => ?_)
  have hH : xR g (xD h) (mW I c (rw2 X (X 2))) (xFh h) n s.heap := by rw [rw2_self]; exact hH
  have L10 : ∀ (fu : Nat) (i : Nat) (S : Nat → Int32) (H : Heap) (locs : List Loc) (ls : Array Slot), (i ≤ sSz h p) → (LI (vP I p) (sSz h p) j i (X 2) S) → sSz h p - i < fu → xR g (xD h) (mW I c (rw2 X S)) (xFh h) n H → va_S (gA g) s.heap H locs → lv_has ls 5 [(0, .ref (ga g [20])), (1, .int (nI c)), (2, .int (nI j)), (3, .int (nI p)), (4, .int (nI i))] → W P_ l e_ { frames := 7, cells := 0, slots := 0, locals := 153 } s m_ ([.ref (ga g [20]), .int (nI c), .int (nI j)] : List Value).toArray bl_ mt_ cd_ H locs 0 0 (MQ bl_ (xQc g none (xR g (xD h) (mW I c (rw2 X (clE (vP I p) (sSz h p) j (X 2)))) (xFh h) n)) ([.ref (ga g [20]), .int (nI c), .int (nI j)] : List Value).toArray s 0 0 (gA g)) (F0 m_ 10 ls []) := by
    intro fu
    induction fu with
    | zero => intro i S H locs ls hi hL hfu; exact absurd hfu (Nat.not_lt_zero _)
    | succ fu ih10 =>
      intro i S H locs ls hi hL hfu hH hS hl
      refine lv_iload hx hb dX7_closes_10 (lv_at hl 4 rfl) ?_
      refine lv_aload_n hx hb dX7_closes_12 rfl (lv_at hl 0 rfl) ?_
      refine x_get (C := RX7) (T := TX7) (N := 24) (ci := 7) hx hb hts iu7 hown hK hH (id := [20]) (by first | trivial | (simp only [xD]; omega) | (simp [xD]; done) | (simp [xD]; omega)) rfl rfl (by decide) 8 (by decide) (hts _ tw847) (fun _ h9 => h9) rfl (v := .ref (ga g [24, 8])) rfl dX7_closes_13 ?_
      refine lv_iload_n hx hb dX7_closes_16 rfl (lv_at hl 3 rfl) ?_
      refine x_iald hx hb hK hH (id := [24, 8]) (by first | trivial | (simp only [xD]; omega) | (simp [xD]; done) | (simp [xD]; omega)) (L := 3) rfl (r := (I [24, 8])) rfl p rfl (by omega) (by decide) dX7_closes_17 ?_
      rw [show (I [24, 8] p) = (nI (sSz h p)) from hA.1]
      refine lv_icmp_ge (tgt := 77) hx hb dX7_closes_18 (by decide) (fun c_18 => ?_) (fun c_18 => ?_)
      · skip
        have c_18 := (nI_leI (a := (sSz h p)) (b := i) (by omega) (by omega)).mp c_18
        have e : i = sSz h p := by omega
        have hcl := clE_eq hW.pW h8 hj (show LI (vP I p) (sSz h p) j (sSz h p) (X 2) S from e ▸ hL)
        exact x_vret hx hb hr hlocks hS dX7_closes_77 (by rw [← hcl]; exact hH)
      · skip
        have c_18 : ¬ _ := fun z_ => c_18 ((nI_leI (a := (sSz h p)) (b := i) (by omega) (by omega)).mpr z_)
        refine lv_aload_n hx hb dX7_closes_21 rfl (lv_at hl 0 rfl) ?_
        refine x_get (C := RX7) (T := TX7) (N := 24) (ci := 7) hx hb hts iu7 hown hK hH (id := [20]) (by first | trivial | (simp only [xD]; omega) | (simp [xD]; done) | (simp [xD]; omega)) rfl rfl (by decide) 1 (by decide) (hts _ tw840) (fun _ h9 => h9) rfl (v := .ref (ga g [21, 1])) rfl dX7_closes_22 ?_
        refine lv_iload_n hx hb dX7_closes_25 rfl (lv_at hl 3 rfl) ?_
        refine x_aald hx hb hK hH (id := [21, 1]) (by first | trivial | (simp only [xD]; omega) | (simp [xD]; done) | (simp [xD]; omega)) 7 (L := 3) rfl (by decide) p rfl (by omega) (by decide) (v := .ref (ga g [22, 1, p])) (by show rq _ (if _ then _ else _) = _; rw [if_pos (show p < xLn 1 by show _ < 3; omega)]; rfl) dX7_closes_26 ?_
        refine lv_iload hx hb dX7_closes_27 (lv_at hl 4 rfl) ?_
        refine x_iald hx hb hK hH (id := [22, 1, p]) (by first | trivial | (simp only [xD]; omega) | (simp [xD]; done) | (simp [xD]; omega)) (L := 8) rfl (r := (I [22, 1, p])) rfl i rfl (by omega) (by decide) dX7_closes_29 ?_
        rw [show (I [22, 1, p] i) = (I [7, p, i] 1) from (hA.2 i (by omega)).2.1]
        refine lv_iload_n hx hb dX7_closes_30 rfl (lv_at hl 2 rfl) ?_
        refine lv_icmp_ne (tgt := 71) hx hb dX7_closes_31 (by decide) (fun c_31 => ?_) (fun c_31 => ?_)
        · skip
          refine lv_iinc (v := (nI (i + 1))) (lv' := [(4, .int (nI (i + 1))), (0, .ref (ga g [20])), (1, .int (nI c)), (2, .int (nI j)), (3, .int (nI p))]) hx hb dX7_closes_71 hl (k := 4) rfl (by first | rfl | exact nI_1 _ | exact nI_add _ _) (by decide) rfl (fun ls hl => ?_)
          refine lv_goto (tgt := 10) hx hb dX7_closes_74 (by decide) ?_
          exact ih10 (i + 1) S _ _ _ (by omega) (LI_no hW.pW h8 hL (by omega) (fun z => c_31 z.1)) (by omega) hH hS (lv_sub hl [1, 2, 3, 4, 0] rfl)
        · skip
          refine lv_aload_n hx hb dX7_closes_34 rfl (lv_at hl 0 rfl) ?_
          refine x_get (C := RX7) (T := TX7) (N := 24) (ci := 7) hx hb hts iu7 hown hK hH (id := [20]) (by first | trivial | (simp only [xD]; omega) | (simp [xD]; done) | (simp [xD]; omega)) rfl rfl (by decide) 14 (by decide) (hts _ tw853) (fun _ h9 => h9) rfl (v := .ref (ga g [21, 14])) rfl dX7_closes_35 ?_
          refine lv_iload_n hx hb dX7_closes_38 rfl (lv_at hl 1 rfl) ?_
          refine x_aald hx hb hK hH (id := [21, 14]) (by first | trivial | (simp only [xD]; omega) | (simp [xD]; done) | (simp [xD]; omega)) 8 (L := 4) rfl (by decide) c rfl (by omega) (by decide) (v := .ref (ga g [22, 14, c])) (by show rq _ (if _ then _ else _) = _; rw [if_pos (show c < xLn 14 by show _ < 4; omega)]; rfl) dX7_closes_39 ?_
          refine lv_iload hx hb dX7_closes_40 (lv_at hl 4 rfl) ?_
          refine x_cald hx hb hK hH (id := [22, 14, c]) (by first | trivial | (simp only [xD]; omega) | (simp [xD]; done) | (simp [xD]; omega)) (L := 8) rfl (r := ((rw2 X S) 2)) (mW_r2 _ _ _) i rfl (by omega) (by decide) dX7_closes_42 ?_
          rw [show ((rw2 X S) 2 i) = (S i) from rfl]
          refine lv_bipush (v := 105) hx hb dX7_closes_43 (by decide) ?_
          refine lv_icmp_eq (tgt := 62) hx hb dX7_closes_45 (by decide) (fun c_45 => ?_) (fun c_45 => ?_)
          · skip
            refine lv_aload_n hx hb dX7_closes_62 rfl (lv_at hl 0 rfl) ?_
            refine lv_iload_n hx hb dX7_closes_63 rfl (lv_at hl 1 rfl) ?_
            refine lv_iload hx hb dX7_closes_64 (lv_at hl 4 rfl) ?_
            refine lv_bipush (v := 120) hx hb dX7_closes_66 (by decide) ?_
            refine x_V0 hx hb hml hown hE hS hl.1 cyX7_becomes tw1000 (c_X7_becomes_2_120 l g h I n c (rw2 X S) hc p hpp hpo hA hW i (by omega) (by have hp := pW_pA hW.pW h8 (show i < sSz h p by omega) (pA_of (P := vP I p) (by omega) c_31).2; have hq := (pA_of (P := vP I p) (i := i) (by omega) c_31).1; omega)) ⟨Nat.le_of_ble_eq_true rfl, Nat.le_of_ble_eq_true rfl⟩ ⟨Nat.le_of_ble_eq_true rfl, Nat.le_of_ble_eq_true rfl⟩ (x_recv hK hH (id := [20]) (by first | trivial | (simp only [xD]; omega) | (simp [xD]; done) | (simp [xD]; omega)) (ci := 7) rfl (by decide) rfl) hH rfl rfl (Nat.le_of_ble_eq_true rfl) dX7_closes_68 (fun H locs hH hS => ?_)
            rw [sEnd_rw2] at hH
            refine lv_iinc (v := (nI (i + 1))) (lv' := [(4, .int (nI (i + 1))), (0, .ref (ga g [20])), (1, .int (nI c)), (2, .int (nI j)), (3, .int (nI p))]) hx hb dX7_closes_71 hl (k := 4) rfl (by first | rfl | exact nI_1 _ | exact nI_add _ _) (by decide) rfl (fun ls hl => ?_)
            refine lv_goto (tgt := 10) hx hb dX7_closes_74 (by decide) ?_
            exact ih10 (i + 1) ((clE (vP I p) (sSz h p) i (fun q => if q = i then 120 else S q))) _ _ _ (by omega) (LI_yes hW.pW h8 hL (by omega) (by omega) c_31 (Or.inl c_45) (clE_LI _ hW.pW h8 (by omega))) (by omega) hH hS (lv_sub hl [1, 2, 3, 4, 0] rfl)
          · skip
            refine lv_aload_n hx hb dX7_closes_48 rfl (lv_at hl 0 rfl) ?_
            refine x_get (C := RX7) (T := TX7) (N := 24) (ci := 7) hx hb hts iu7 hown hK hH (id := [20]) (by first | trivial | (simp only [xD]; omega) | (simp [xD]; done) | (simp [xD]; omega)) rfl rfl (by decide) 14 (by decide) (hts _ tw853) (fun _ h9 => h9) rfl (v := .ref (ga g [21, 14])) rfl dX7_closes_49 ?_
            refine lv_iload_n hx hb dX7_closes_52 rfl (lv_at hl 1 rfl) ?_
            refine x_aald hx hb hK hH (id := [21, 14]) (by first | trivial | (simp only [xD]; omega) | (simp [xD]; done) | (simp [xD]; omega)) 8 (L := 4) rfl (by decide) c rfl (by omega) (by decide) (v := .ref (ga g [22, 14, c])) (by show rq _ (if _ then _ else _) = _; rw [if_pos (show c < xLn 14 by show _ < 4; omega)]; rfl) dX7_closes_53 ?_
            refine lv_iload hx hb dX7_closes_54 (lv_at hl 4 rfl) ?_
            refine x_cald hx hb hK hH (id := [22, 14, c]) (by first | trivial | (simp only [xD]; omega) | (simp [xD]; done) | (simp [xD]; omega)) (L := 8) rfl (r := ((rw2 X S) 2)) (mW_r2 _ _ _) i rfl (by omega) (by decide) dX7_closes_56 ?_
            rw [show ((rw2 X S) 2 i) = (S i) from rfl]
            refine lv_bipush (v := 97) hx hb dX7_closes_57 (by decide) ?_
            refine lv_icmp_ne (tgt := 71) hx hb dX7_closes_59 (by decide) (fun c_59 => ?_) (fun c_59 => ?_)
            · skip
              refine lv_iinc (v := (nI (i + 1))) (lv' := [(4, .int (nI (i + 1))), (0, .ref (ga g [20])), (1, .int (nI c)), (2, .int (nI j)), (3, .int (nI p))]) hx hb dX7_closes_71 hl (k := 4) rfl (by first | rfl | exact nI_1 _ | exact nI_add _ _) (by decide) rfl (fun ls hl => ?_)
              refine lv_goto (tgt := 10) hx hb dX7_closes_74 (by decide) ?_
              exact ih10 (i + 1) S _ _ _ (by omega) (LI_no hW.pW h8 hL (by omega) (fun z => z.2.elim c_45 c_59)) (by omega) hH hS (lv_sub hl [1, 2, 3, 4, 0] rfl)
            · skip
              refine lv_aload_n hx hb dX7_closes_62 rfl (lv_at hl 0 rfl) ?_
              refine lv_iload_n hx hb dX7_closes_63 rfl (lv_at hl 1 rfl) ?_
              refine lv_iload hx hb dX7_closes_64 (lv_at hl 4 rfl) ?_
              refine lv_bipush (v := 120) hx hb dX7_closes_66 (by decide) ?_
              refine x_V0 hx hb hml hown hE hS hl.1 cyX7_becomes tw1000 (c_X7_becomes_2_120 l g h I n c (rw2 X S) hc p hpp hpo hA hW i (by omega) (by have hp := pW_pA hW.pW h8 (show i < sSz h p by omega) (pA_of (P := vP I p) (by omega) c_31).2; have hq := (pA_of (P := vP I p) (i := i) (by omega) c_31).1; omega)) ⟨Nat.le_of_ble_eq_true rfl, Nat.le_of_ble_eq_true rfl⟩ ⟨Nat.le_of_ble_eq_true rfl, Nat.le_of_ble_eq_true rfl⟩ (x_recv hK hH (id := [20]) (by first | trivial | (simp only [xD]; omega) | (simp [xD]; done) | (simp [xD]; omega)) (ci := 7) rfl (by decide) rfl) hH rfl rfl (Nat.le_of_ble_eq_true rfl) dX7_closes_68 (fun H locs hH hS => ?_)
              rw [sEnd_rw2] at hH
              refine lv_iinc (v := (nI (i + 1))) (lv' := [(4, .int (nI (i + 1))), (0, .ref (ga g [20])), (1, .int (nI c)), (2, .int (nI j)), (3, .int (nI p))]) hx hb dX7_closes_71 hl (k := 4) rfl (by first | rfl | exact nI_1 _ | exact nI_add _ _) (by decide) rfl (fun ls hl => ?_)
              refine lv_goto (tgt := 10) hx hb dX7_closes_74 (by decide) ?_
              exact ih10 (i + 1) ((clE (vP I p) (sSz h p) i (fun q => if q = i then 120 else S q))) _ _ _ (by omega) (LI_yes hW.pW h8 hL (by omega) (by omega) c_31 (Or.inr c_59) (clE_LI _ hW.pW h8 (by omega))) (by omega) hH hS (lv_sub hl [1, 2, 3, 4, 0] rfl)
  exact L10 _ 0 ((X 2)) _ _ _ (Nat.zero_le _) (LI_0 _ _ _ _) (Nat.lt_succ_self _) hH hS (lv_sub hl [2, 3, 4, 1, 0] rfl)

set_option maxHeartbeats 1000000 in
set_option maxRecDepth 100000 in
theorem c_X7_becomes_3_120 (l : Launch) (g : xG) (h : xS) (I : xI) (n c : Nat) (X : xX) (hc : c < 4) (p : Nat) (hpp : p < 3) (hpo : I [24, 11] c = nI p) (hA : mA h I p) (hW : xWp h I p) (k : Nat) (hk : k < sSz h p) (hlv : sSz h p ≤ k + 1 + 3)  : xM l yX7_becomes (xws yX7_becomes cX7_becomes 4 none) 8 177 g [.ref (ga g [20]), .int (nI c), .int (nI k), .int 120] (xR g (xD h) (mW I c X) (xFh h) n) none (xR g (xD h) (mW I c (sEnd (vP I p) (sSz h p) X k 120)) (xFh h) n) 0 0 := by
  refine xM.of (by decide) (Nat.le_of_ble_eq_true rfl) ?_
  intro P_ e_ s m_ bl_ mt_ cd_ ls hx hb hr hown hlocks hml hnm hE hK hts hH hS hl
  have hl : lv_has ls 4 [(0, .ref (ga g [20])), (1, .int (nI c)), (2, .int (nI k)), (3, .int 120)] := hl
  have h8 := hW.1
  refine lv_aload_n hx hb dX7_becomes_0 rfl (lv_at hl 0 rfl) ?_
  refine x_get (C := RX7) (T := TX7) (N := 24) (ci := 7) hx hb hts iu7 hown hK hH (id := [20]) (by first | trivial | (simp only [xD]; omega) | (simp [xD]; done) | (simp [xD]; omega)) rfl rfl (by decide) 14 (by decide) (hts _ tw853) (fun _ h9 => h9) rfl (v := .ref (ga g [21, 14])) rfl dX7_becomes_1 ?_
  refine lv_iload_n hx hb dX7_becomes_4 rfl (lv_at hl 1 rfl) ?_
  refine x_aald hx hb hK hH (id := [21, 14]) (by first | trivial | (simp only [xD]; omega) | (simp [xD]; done) | (simp [xD]; omega)) 8 (L := 4) rfl (by decide) c rfl (by omega) (by decide) (v := .ref (ga g [22, 14, c])) (by show rq _ (if _ then _ else _) = _; rw [if_pos (show c < xLn 14 by show _ < 4; omega)]; rfl) dX7_becomes_5 ?_
  refine lv_iload_n hx hb dX7_becomes_6 rfl (lv_at hl 2 rfl) ?_
  refine lv_iload_n hx hb dX7_becomes_7 rfl (lv_at hl 3 rfl) ?_
  obtain ⟨X1_, hX1_⟩ : ∃ z, z = up2 X 2 k 120 := ⟨_, rfl⟩
  refine x_cast hx hb hK hH hS (id := [22, 14, c]) (by first | trivial | (simp only [xD]; omega) | (simp [xD]; done) | (simp [xD]; omega)) (L := 8) rfl k rfl (by omega) (by decide) (by rfl) ((mW_u2 _ _ _ _ _).trans (congrArg (mW I c) hX1_.symm)) dX7_becomes_8 (fun H locs hH hS => ?_)
  refine lv_aload_n hx hb dX7_becomes_9 rfl (lv_at hl 0 rfl) ?_
  refine x_get (C := RX7) (T := TX7) (N := 24) (ci := 7) hx hb hts iu7 hown hK hH (id := [20]) (by first | trivial | (simp only [xD]; omega) | (simp [xD]; done) | (simp [xD]; omega)) rfl rfl (by decide) 0 (by decide) (hts _ tw839) (fun _ h9 => h9) rfl (v := .ref (ga g [21, 0])) rfl dX7_becomes_10 ?_
  refine lv_aload_n hx hb dX7_becomes_13 rfl (lv_at hl 0 rfl) ?_
  refine x_get (C := RX7) (T := TX7) (N := 24) (ci := 7) hx hb hts iu7 hown hK hH (id := [20]) (by first | trivial | (simp only [xD]; omega) | (simp [xD]; done) | (simp [xD]; omega)) rfl rfl (by decide) 11 (by decide) (hts _ tw850) (fun _ h9 => h9) rfl (v := .ref (ga g [24, 11])) rfl dX7_becomes_14 ?_
  refine lv_iload_n hx hb dX7_becomes_17 rfl (lv_at hl 1 rfl) ?_
  refine x_iald hx hb hK hH (id := [24, 11]) (by first | trivial | (simp only [xD]; omega) | (simp [xD]; done) | (simp [xD]; omega)) (L := 4) rfl (r := (I [24, 11])) rfl c rfl (by omega) (by decide) dX7_becomes_18 ?_
  rw [show (I [24, 11] c) = (nI p) from hpo]
  refine x_aald hx hb hK hH (id := [21, 0]) (by first | trivial | (simp only [xD]; omega) | (simp [xD]; done) | (simp [xD]; omega)) 8 (L := 3) rfl (by decide) p rfl (by omega) (by decide) (v := .ref (ga g [22, 0, p])) (by show rq _ (if _ then _ else _) = _; rw [if_pos (show p < xLn 0 by show _ < 3; omega)]; rfl) dX7_becomes_19 ?_
  refine lv_iload_n hx hb dX7_becomes_20 rfl (lv_at hl 2 rfl) ?_
  refine x_cald hx hb hK hH (id := [22, 0, p]) (by first | trivial | (simp only [xD]; omega) | (simp [xD]; done) | (simp [xD]; omega)) (L := 8) rfl (r := (I [22, 0, p])) rfl k rfl (by omega) (by decide) dX7_becomes_21 ?_
  rw [show (I [22, 0, p] k) = (I [7, p, k] 0) from (hA.2 k (by omega)).1]
  refine lv_bipush (v := 115) hx hb dX7_becomes_22 (by decide) ?_
  refine lv_icmp_ne (tgt := 45) hx hb dX7_becomes_24 (by decide) (fun c_24 => ?_) (fun c_24 => ?_)
  · skip
    exact x_vret hx hb hr hlocks hS dX7_becomes_45 (by rw [sEnd_cl, ← clE_eq hW.pW h8 hk (LI_self (hW.leaf c_24)), ← up2_rw2, ← hX1_]; exact hH)
  · skip
    refine lv_iload_n hx hb dX7_becomes_27 rfl (lv_at hl 3 rfl) ?_
    refine lv_bipush (v := 99) hx hb dX7_becomes_28 (by decide) ?_
    refine lv_icmp_eq (tgt := 39) hx hb dX7_becomes_30 (by decide) (fun q_ => absurd q_ (by decide)) (fun _ => ?_)
    refine lv_iload_n hx hb dX7_becomes_33 rfl (lv_at hl 3 rfl) ?_
    refine lv_bipush (v := 120) hx hb dX7_becomes_34 (by decide) ?_
    refine lv_icmp_ne (tgt := 45) hx hb dX7_becomes_36 (by decide) (fun q_ => absurd (by decide) q_) (fun _ => ?_)
    refine lv_aload_n hx hb dX7_becomes_39 rfl (lv_at hl 0 rfl) ?_
    refine lv_iload_n hx hb dX7_becomes_40 rfl (lv_at hl 1 rfl) ?_
    refine lv_iload_n hx hb dX7_becomes_41 rfl (lv_at hl 2 rfl) ?_
    refine x_V0 hx hb hml hown hE hS hl.1 cyX7_closes tw1004 (c_X7_closes_3 l g h I n c X1_ hc p hpp hpo hA hW k hk hlv) ⟨Nat.le_of_ble_eq_true rfl, Nat.le_of_ble_eq_true rfl⟩ ⟨Nat.le_of_ble_eq_true rfl, Nat.le_of_ble_eq_true rfl⟩ (x_recv hK hH (id := [20]) (by first | trivial | (simp only [xD]; omega) | (simp [xD]; done) | (simp [xD]; omega)) (ci := 7) rfl (by decide) rfl) hH rfl rfl (Nat.le_of_ble_eq_true rfl) dX7_becomes_42 (fun H locs hH hS => ?_)
    exact x_vret hx hb hr hlocks hS dX7_becomes_45 (by rw [hX1_, rw2_up2, up2_row] at hH; exact hH)

set_option maxHeartbeats 1000000 in
set_option maxRecDepth 100000 in
theorem c_X7_closes_4 (l : Launch) (g : xG) (h : xS) (I : xI) (n c : Nat) (X : xX) (hc : c < 4) (p : Nat) (hpp : p < 3) (hpo : I [24, 11] c = nI p) (hA : mA h I p) (hW : xWp h I p) (j : Nat) (hj : j < sSz h p) (hlv : sSz h p ≤ j + 1 + 4)  : xM l yX7_closes (xws yX7_closes cX7_closes 5 none) 9 200 g [.ref (ga g [20]), .int (nI c), .int (nI j)] (xR g (xD h) (mW I c X) (xFh h) n) none (xR g (xD h) (mW I c (rw2 X (clE (vP I p) (sSz h p) j (X 2)))) (xFh h) n) 0 0 := by
  refine xM.of (by decide) (Nat.le_of_ble_eq_true rfl) ?_
  intro P_ e_ s m_ bl_ mt_ cd_ ls hx hb hr hown hlocks hml hnm hE hK hts hH hS hl
  have hl : lv_has ls 5 [(0, .ref (ga g [20])), (1, .int (nI c)), (2, .int (nI j))] := hl
  have h8 := hW.1
  refine lv_aload_n hx hb dX7_closes_0 rfl (lv_at hl 0 rfl) ?_
  refine x_get (C := RX7) (T := TX7) (N := 24) (ci := 7) hx hb hts iu7 hown hK hH (id := [20]) (by first | trivial | (simp only [xD]; omega) | (simp [xD]; done) | (simp [xD]; omega)) rfl rfl (by decide) 11 (by decide) (hts _ tw850) (fun _ h9 => h9) rfl (v := .ref (ga g [24, 11])) rfl dX7_closes_1 ?_
  refine lv_iload_n hx hb dX7_closes_4 rfl (lv_at hl 1 rfl) ?_
  refine x_iald hx hb hK hH (id := [24, 11]) (by first | trivial | (simp only [xD]; omega) | (simp [xD]; done) | (simp [xD]; omega)) (L := 4) rfl (r := (I [24, 11])) rfl c rfl (by omega) (by decide) dX7_closes_5 ?_
  rw [show (I [24, 11] c) = (nI p) from hpo]
  refine lv_istore_n (lv' := [(3, .int (nI p)), (0, .ref (ga g [20])), (1, .int (nI c)), (2, .int (nI j))]) hx hb dX7_closes_6 rfl hl (by decide) rfl (fun ls hl => ?_)
  refine lv_iconst (v := 0) hx hb dX7_closes_7 (by decide) ?_
  refine lv_istore (lv' := [(4, .int 0), (3, .int (nI p)), (0, .ref (ga g [20])), (1, .int (nI c)), (2, .int (nI j))]) hx hb dX7_closes_8 hl (by decide) rfl (fun ls hl => ?_)
  have hH : xR g (xD h) (mW I c (rw2 X (X 2))) (xFh h) n s.heap := by rw [rw2_self]; exact hH
  have L10 : ∀ (fu : Nat) (i : Nat) (S : Nat → Int32) (H : Heap) (locs : List Loc) (ls : Array Slot), (i ≤ sSz h p) → (LI (vP I p) (sSz h p) j i (X 2) S) → sSz h p - i < fu → xR g (xD h) (mW I c (rw2 X S)) (xFh h) n H → va_S (gA g) s.heap H locs → lv_has ls 5 [(0, .ref (ga g [20])), (1, .int (nI c)), (2, .int (nI j)), (3, .int (nI p)), (4, .int (nI i))] → W P_ l e_ { frames := 9, cells := 0, slots := 0, locals := 200 } s m_ ([.ref (ga g [20]), .int (nI c), .int (nI j)] : List Value).toArray bl_ mt_ cd_ H locs 0 0 (MQ bl_ (xQc g none (xR g (xD h) (mW I c (rw2 X (clE (vP I p) (sSz h p) j (X 2)))) (xFh h) n)) ([.ref (ga g [20]), .int (nI c), .int (nI j)] : List Value).toArray s 0 0 (gA g)) (F0 m_ 10 ls []) := by
    intro fu
    induction fu with
    | zero => intro i S H locs ls hi hL hfu; exact absurd hfu (Nat.not_lt_zero _)
    | succ fu ih10 =>
      intro i S H locs ls hi hL hfu hH hS hl
      refine lv_iload hx hb dX7_closes_10 (lv_at hl 4 rfl) ?_
      refine lv_aload_n hx hb dX7_closes_12 rfl (lv_at hl 0 rfl) ?_
      refine x_get (C := RX7) (T := TX7) (N := 24) (ci := 7) hx hb hts iu7 hown hK hH (id := [20]) (by first | trivial | (simp only [xD]; omega) | (simp [xD]; done) | (simp [xD]; omega)) rfl rfl (by decide) 8 (by decide) (hts _ tw847) (fun _ h9 => h9) rfl (v := .ref (ga g [24, 8])) rfl dX7_closes_13 ?_
      refine lv_iload_n hx hb dX7_closes_16 rfl (lv_at hl 3 rfl) ?_
      refine x_iald hx hb hK hH (id := [24, 8]) (by first | trivial | (simp only [xD]; omega) | (simp [xD]; done) | (simp [xD]; omega)) (L := 3) rfl (r := (I [24, 8])) rfl p rfl (by omega) (by decide) dX7_closes_17 ?_
      rw [show (I [24, 8] p) = (nI (sSz h p)) from hA.1]
      refine lv_icmp_ge (tgt := 77) hx hb dX7_closes_18 (by decide) (fun c_18 => ?_) (fun c_18 => ?_)
      · skip
        have c_18 := (nI_leI (a := (sSz h p)) (b := i) (by omega) (by omega)).mp c_18
        have e : i = sSz h p := by omega
        have hcl := clE_eq hW.pW h8 hj (show LI (vP I p) (sSz h p) j (sSz h p) (X 2) S from e ▸ hL)
        exact x_vret hx hb hr hlocks hS dX7_closes_77 (by rw [← hcl]; exact hH)
      · skip
        have c_18 : ¬ _ := fun z_ => c_18 ((nI_leI (a := (sSz h p)) (b := i) (by omega) (by omega)).mpr z_)
        refine lv_aload_n hx hb dX7_closes_21 rfl (lv_at hl 0 rfl) ?_
        refine x_get (C := RX7) (T := TX7) (N := 24) (ci := 7) hx hb hts iu7 hown hK hH (id := [20]) (by first | trivial | (simp only [xD]; omega) | (simp [xD]; done) | (simp [xD]; omega)) rfl rfl (by decide) 1 (by decide) (hts _ tw840) (fun _ h9 => h9) rfl (v := .ref (ga g [21, 1])) rfl dX7_closes_22 ?_
        refine lv_iload_n hx hb dX7_closes_25 rfl (lv_at hl 3 rfl) ?_
        refine x_aald hx hb hK hH (id := [21, 1]) (by first | trivial | (simp only [xD]; omega) | (simp [xD]; done) | (simp [xD]; omega)) 7 (L := 3) rfl (by decide) p rfl (by omega) (by decide) (v := .ref (ga g [22, 1, p])) (by show rq _ (if _ then _ else _) = _; rw [if_pos (show p < xLn 1 by show _ < 3; omega)]; rfl) dX7_closes_26 ?_
        refine lv_iload hx hb dX7_closes_27 (lv_at hl 4 rfl) ?_
        refine x_iald hx hb hK hH (id := [22, 1, p]) (by first | trivial | (simp only [xD]; omega) | (simp [xD]; done) | (simp [xD]; omega)) (L := 8) rfl (r := (I [22, 1, p])) rfl i rfl (by omega) (by decide) dX7_closes_29 ?_
        rw [show (I [22, 1, p] i) = (I [7, p, i] 1) from (hA.2 i (by omega)).2.1]
        refine lv_iload_n hx hb dX7_closes_30 rfl (lv_at hl 2 rfl) ?_
        refine lv_icmp_ne (tgt := 71) hx hb dX7_closes_31 (by decide) (fun c_31 => ?_) (fun c_31 => ?_)
        · skip
          refine lv_iinc (v := (nI (i + 1))) (lv' := [(4, .int (nI (i + 1))), (0, .ref (ga g [20])), (1, .int (nI c)), (2, .int (nI j)), (3, .int (nI p))]) hx hb dX7_closes_71 hl (k := 4) rfl (by first | rfl | exact nI_1 _ | exact nI_add _ _) (by decide) rfl (fun ls hl => ?_)
          refine lv_goto (tgt := 10) hx hb dX7_closes_74 (by decide) ?_
          exact ih10 (i + 1) S _ _ _ (by omega) (LI_no hW.pW h8 hL (by omega) (fun z => c_31 z.1)) (by omega) hH hS (lv_sub hl [1, 2, 3, 4, 0] rfl)
        · skip
          refine lv_aload_n hx hb dX7_closes_34 rfl (lv_at hl 0 rfl) ?_
          refine x_get (C := RX7) (T := TX7) (N := 24) (ci := 7) hx hb hts iu7 hown hK hH (id := [20]) (by first | trivial | (simp only [xD]; omega) | (simp [xD]; done) | (simp [xD]; omega)) rfl rfl (by decide) 14 (by decide) (hts _ tw853) (fun _ h9 => h9) rfl (v := .ref (ga g [21, 14])) rfl dX7_closes_35 ?_
          refine lv_iload_n hx hb dX7_closes_38 rfl (lv_at hl 1 rfl) ?_
          refine x_aald hx hb hK hH (id := [21, 14]) (by first | trivial | (simp only [xD]; omega) | (simp [xD]; done) | (simp [xD]; omega)) 8 (L := 4) rfl (by decide) c rfl (by omega) (by decide) (v := .ref (ga g [22, 14, c])) (by show rq _ (if _ then _ else _) = _; rw [if_pos (show c < xLn 14 by show _ < 4; omega)]; rfl) dX7_closes_39 ?_
          refine lv_iload hx hb dX7_closes_40 (lv_at hl 4 rfl) ?_
          refine x_cald hx hb hK hH (id := [22, 14, c]) (by first | trivial | (simp only [xD]; omega) | (simp [xD]; done) | (simp [xD]; omega)) (L := 8) rfl (r := ((rw2 X S) 2)) (mW_r2 _ _ _) i rfl (by omega) (by decide) dX7_closes_42 ?_
          rw [show ((rw2 X S) 2 i) = (S i) from rfl]
          refine lv_bipush (v := 105) hx hb dX7_closes_43 (by decide) ?_
          refine lv_icmp_eq (tgt := 62) hx hb dX7_closes_45 (by decide) (fun c_45 => ?_) (fun c_45 => ?_)
          · skip
            refine lv_aload_n hx hb dX7_closes_62 rfl (lv_at hl 0 rfl) ?_
            refine lv_iload_n hx hb dX7_closes_63 rfl (lv_at hl 1 rfl) ?_
            refine lv_iload hx hb dX7_closes_64 (lv_at hl 4 rfl) ?_
            refine lv_bipush (v := 120) hx hb dX7_closes_66 (by decide) ?_
            refine x_V0 hx hb hml hown hE hS hl.1 cyX7_becomes tw1000 (c_X7_becomes_3_120 l g h I n c (rw2 X S) hc p hpp hpo hA hW i (by omega) (by have hp := pW_pA hW.pW h8 (show i < sSz h p by omega) (pA_of (P := vP I p) (by omega) c_31).2; have hq := (pA_of (P := vP I p) (i := i) (by omega) c_31).1; omega)) ⟨Nat.le_of_ble_eq_true rfl, Nat.le_of_ble_eq_true rfl⟩ ⟨Nat.le_of_ble_eq_true rfl, Nat.le_of_ble_eq_true rfl⟩ (x_recv hK hH (id := [20]) (by first | trivial | (simp only [xD]; omega) | (simp [xD]; done) | (simp [xD]; omega)) (ci := 7) rfl (by decide) rfl) hH rfl rfl (Nat.le_of_ble_eq_true rfl) dX7_closes_68 (fun H locs hH hS => ?_)
            rw [sEnd_rw2] at hH
            refine lv_iinc (v := (nI (i + 1))) (lv' := [(4, .int (nI (i + 1))), (0, .ref (ga g [20])), (1, .int (nI c)), (2, .int (nI j)), (3, .int (nI p))]) hx hb dX7_closes_71 hl (k := 4) rfl (by first | rfl | exact nI_1 _ | exact nI_add _ _) (by decide) rfl (fun ls hl => ?_)
            refine lv_goto (tgt := 10) hx hb dX7_closes_74 (by decide) ?_
            exact ih10 (i + 1) ((clE (vP I p) (sSz h p) i (fun q => if q = i then 120 else S q))) _ _ _ (by omega) (LI_yes hW.pW h8 hL (by omega) (by omega) c_31 (Or.inl c_45) (clE_LI _ hW.pW h8 (by omega))) (by omega) hH hS (lv_sub hl [1, 2, 3, 4, 0] rfl)
          · skip
            refine lv_aload_n hx hb dX7_closes_48 rfl (lv_at hl 0 rfl) ?_
            refine x_get (C := RX7) (T := TX7) (N := 24) (ci := 7) hx hb hts iu7 hown hK hH (id := [20]) (by first | trivial | (simp only [xD]; omega) | (simp [xD]; done) | (simp [xD]; omega)) rfl rfl (by decide) 14 (by decide) (hts _ tw853) (fun _ h9 => h9) rfl (v := .ref (ga g [21, 14])) rfl dX7_closes_49 ?_
            refine lv_iload_n hx hb dX7_closes_52 rfl (lv_at hl 1 rfl) ?_
            refine x_aald hx hb hK hH (id := [21, 14]) (by first | trivial | (simp only [xD]; omega) | (simp [xD]; done) | (simp [xD]; omega)) 8 (L := 4) rfl (by decide) c rfl (by omega) (by decide) (v := .ref (ga g [22, 14, c])) (by show rq _ (if _ then _ else _) = _; rw [if_pos (show c < xLn 14 by show _ < 4; omega)]; rfl) dX7_closes_53 ?_
            refine lv_iload hx hb dX7_closes_54 (lv_at hl 4 rfl) ?_
            refine x_cald hx hb hK hH (id := [22, 14, c]) (by first | trivial | (simp only [xD]; omega) | (simp [xD]; done) | (simp [xD]; omega)) (L := 8) rfl (r := ((rw2 X S) 2)) (mW_r2 _ _ _) i rfl (by omega) (by decide) dX7_closes_56 ?_
            rw [show ((rw2 X S) 2 i) = (S i) from rfl]
            refine lv_bipush (v := 97) hx hb dX7_closes_57 (by decide) ?_
            refine lv_icmp_ne (tgt := 71) hx hb dX7_closes_59 (by decide) (fun c_59 => ?_) (fun c_59 => ?_)
            · skip
              refine lv_iinc (v := (nI (i + 1))) (lv' := [(4, .int (nI (i + 1))), (0, .ref (ga g [20])), (1, .int (nI c)), (2, .int (nI j)), (3, .int (nI p))]) hx hb dX7_closes_71 hl (k := 4) rfl (by first | rfl | exact nI_1 _ | exact nI_add _ _) (by decide) rfl (fun ls hl => ?_)
              refine lv_goto (tgt := 10) hx hb dX7_closes_74 (by decide) ?_
              exact ih10 (i + 1) S _ _ _ (by omega) (LI_no hW.pW h8 hL (by omega) (fun z => z.2.elim c_45 c_59)) (by omega) hH hS (lv_sub hl [1, 2, 3, 4, 0] rfl)
            · skip
              refine lv_aload_n hx hb dX7_closes_62 rfl (lv_at hl 0 rfl) ?_
              refine lv_iload_n hx hb dX7_closes_63 rfl (lv_at hl 1 rfl) ?_
              refine lv_iload hx hb dX7_closes_64 (lv_at hl 4 rfl) ?_
              refine lv_bipush (v := 120) hx hb dX7_closes_66 (by decide) ?_
              refine x_V0 hx hb hml hown hE hS hl.1 cyX7_becomes tw1000 (c_X7_becomes_3_120 l g h I n c (rw2 X S) hc p hpp hpo hA hW i (by omega) (by have hp := pW_pA hW.pW h8 (show i < sSz h p by omega) (pA_of (P := vP I p) (by omega) c_31).2; have hq := (pA_of (P := vP I p) (i := i) (by omega) c_31).1; omega)) ⟨Nat.le_of_ble_eq_true rfl, Nat.le_of_ble_eq_true rfl⟩ ⟨Nat.le_of_ble_eq_true rfl, Nat.le_of_ble_eq_true rfl⟩ (x_recv hK hH (id := [20]) (by first | trivial | (simp only [xD]; omega) | (simp [xD]; done) | (simp [xD]; omega)) (ci := 7) rfl (by decide) rfl) hH rfl rfl (Nat.le_of_ble_eq_true rfl) dX7_closes_68 (fun H locs hH hS => ?_)
              rw [sEnd_rw2] at hH
              refine lv_iinc (v := (nI (i + 1))) (lv' := [(4, .int (nI (i + 1))), (0, .ref (ga g [20])), (1, .int (nI c)), (2, .int (nI j)), (3, .int (nI p))]) hx hb dX7_closes_71 hl (k := 4) rfl (by first | rfl | exact nI_1 _ | exact nI_add _ _) (by decide) rfl (fun ls hl => ?_)
              refine lv_goto (tgt := 10) hx hb dX7_closes_74 (by decide) ?_
              exact ih10 (i + 1) ((clE (vP I p) (sSz h p) i (fun q => if q = i then 120 else S q))) _ _ _ (by omega) (LI_yes hW.pW h8 hL (by omega) (by omega) c_31 (Or.inr c_59) (clE_LI _ hW.pW h8 (by omega))) (by omega) hH hS (lv_sub hl [1, 2, 3, 4, 0] rfl)
  exact L10 _ 0 ((X 2)) _ _ _ (Nat.zero_le _) (LI_0 _ _ _ _) (Nat.lt_succ_self _) hH hS (lv_sub hl [2, 3, 4, 1, 0] rfl)

set_option maxHeartbeats 1000000 in
set_option maxRecDepth 100000 in
theorem c_X7_becomes_4_120 (l : Launch) (g : xG) (h : xS) (I : xI) (n c : Nat) (X : xX) (hc : c < 4) (p : Nat) (hpp : p < 3) (hpo : I [24, 11] c = nI p) (hA : mA h I p) (hW : xWp h I p) (k : Nat) (hk : k < sSz h p) (hlv : sSz h p ≤ k + 1 + 4)  : xM l yX7_becomes (xws yX7_becomes cX7_becomes 4 none) 10 224 g [.ref (ga g [20]), .int (nI c), .int (nI k), .int 120] (xR g (xD h) (mW I c X) (xFh h) n) none (xR g (xD h) (mW I c (sEnd (vP I p) (sSz h p) X k 120)) (xFh h) n) 0 0 := by
  refine xM.of (by decide) (Nat.le_of_ble_eq_true rfl) ?_
  intro P_ e_ s m_ bl_ mt_ cd_ ls hx hb hr hown hlocks hml hnm hE hK hts hH hS hl
  have hl : lv_has ls 4 [(0, .ref (ga g [20])), (1, .int (nI c)), (2, .int (nI k)), (3, .int 120)] := hl
  have h8 := hW.1
  refine lv_aload_n hx hb dX7_becomes_0 rfl (lv_at hl 0 rfl) ?_
  refine x_get (C := RX7) (T := TX7) (N := 24) (ci := 7) hx hb hts iu7 hown hK hH (id := [20]) (by first | trivial | (simp only [xD]; omega) | (simp [xD]; done) | (simp [xD]; omega)) rfl rfl (by decide) 14 (by decide) (hts _ tw853) (fun _ h9 => h9) rfl (v := .ref (ga g [21, 14])) rfl dX7_becomes_1 ?_
  refine lv_iload_n hx hb dX7_becomes_4 rfl (lv_at hl 1 rfl) ?_
  refine x_aald hx hb hK hH (id := [21, 14]) (by first | trivial | (simp only [xD]; omega) | (simp [xD]; done) | (simp [xD]; omega)) 8 (L := 4) rfl (by decide) c rfl (by omega) (by decide) (v := .ref (ga g [22, 14, c])) (by show rq _ (if _ then _ else _) = _; rw [if_pos (show c < xLn 14 by show _ < 4; omega)]; rfl) dX7_becomes_5 ?_
  refine lv_iload_n hx hb dX7_becomes_6 rfl (lv_at hl 2 rfl) ?_
  refine lv_iload_n hx hb dX7_becomes_7 rfl (lv_at hl 3 rfl) ?_
  obtain ⟨X1_, hX1_⟩ : ∃ z, z = up2 X 2 k 120 := ⟨_, rfl⟩
  refine x_cast hx hb hK hH hS (id := [22, 14, c]) (by first | trivial | (simp only [xD]; omega) | (simp [xD]; done) | (simp [xD]; omega)) (L := 8) rfl k rfl (by omega) (by decide) (by rfl) ((mW_u2 _ _ _ _ _).trans (congrArg (mW I c) hX1_.symm)) dX7_becomes_8 (fun H locs hH hS => ?_)
  refine lv_aload_n hx hb dX7_becomes_9 rfl (lv_at hl 0 rfl) ?_
  refine x_get (C := RX7) (T := TX7) (N := 24) (ci := 7) hx hb hts iu7 hown hK hH (id := [20]) (by first | trivial | (simp only [xD]; omega) | (simp [xD]; done) | (simp [xD]; omega)) rfl rfl (by decide) 0 (by decide) (hts _ tw839) (fun _ h9 => h9) rfl (v := .ref (ga g [21, 0])) rfl dX7_becomes_10 ?_
  refine lv_aload_n hx hb dX7_becomes_13 rfl (lv_at hl 0 rfl) ?_
  refine x_get (C := RX7) (T := TX7) (N := 24) (ci := 7) hx hb hts iu7 hown hK hH (id := [20]) (by first | trivial | (simp only [xD]; omega) | (simp [xD]; done) | (simp [xD]; omega)) rfl rfl (by decide) 11 (by decide) (hts _ tw850) (fun _ h9 => h9) rfl (v := .ref (ga g [24, 11])) rfl dX7_becomes_14 ?_
  refine lv_iload_n hx hb dX7_becomes_17 rfl (lv_at hl 1 rfl) ?_
  refine x_iald hx hb hK hH (id := [24, 11]) (by first | trivial | (simp only [xD]; omega) | (simp [xD]; done) | (simp [xD]; omega)) (L := 4) rfl (r := (I [24, 11])) rfl c rfl (by omega) (by decide) dX7_becomes_18 ?_
  rw [show (I [24, 11] c) = (nI p) from hpo]
  refine x_aald hx hb hK hH (id := [21, 0]) (by first | trivial | (simp only [xD]; omega) | (simp [xD]; done) | (simp [xD]; omega)) 8 (L := 3) rfl (by decide) p rfl (by omega) (by decide) (v := .ref (ga g [22, 0, p])) (by show rq _ (if _ then _ else _) = _; rw [if_pos (show p < xLn 0 by show _ < 3; omega)]; rfl) dX7_becomes_19 ?_
  refine lv_iload_n hx hb dX7_becomes_20 rfl (lv_at hl 2 rfl) ?_
  refine x_cald hx hb hK hH (id := [22, 0, p]) (by first | trivial | (simp only [xD]; omega) | (simp [xD]; done) | (simp [xD]; omega)) (L := 8) rfl (r := (I [22, 0, p])) rfl k rfl (by omega) (by decide) dX7_becomes_21 ?_
  rw [show (I [22, 0, p] k) = (I [7, p, k] 0) from (hA.2 k (by omega)).1]
  refine lv_bipush (v := 115) hx hb dX7_becomes_22 (by decide) ?_
  refine lv_icmp_ne (tgt := 45) hx hb dX7_becomes_24 (by decide) (fun c_24 => ?_) (fun c_24 => ?_)
  · skip
    exact x_vret hx hb hr hlocks hS dX7_becomes_45 (by rw [sEnd_cl, ← clE_eq hW.pW h8 hk (LI_self (hW.leaf c_24)), ← up2_rw2, ← hX1_]; exact hH)
  · skip
    refine lv_iload_n hx hb dX7_becomes_27 rfl (lv_at hl 3 rfl) ?_
    refine lv_bipush (v := 99) hx hb dX7_becomes_28 (by decide) ?_
    refine lv_icmp_eq (tgt := 39) hx hb dX7_becomes_30 (by decide) (fun q_ => absurd q_ (by decide)) (fun _ => ?_)
    refine lv_iload_n hx hb dX7_becomes_33 rfl (lv_at hl 3 rfl) ?_
    refine lv_bipush (v := 120) hx hb dX7_becomes_34 (by decide) ?_
    refine lv_icmp_ne (tgt := 45) hx hb dX7_becomes_36 (by decide) (fun q_ => absurd (by decide) q_) (fun _ => ?_)
    refine lv_aload_n hx hb dX7_becomes_39 rfl (lv_at hl 0 rfl) ?_
    refine lv_iload_n hx hb dX7_becomes_40 rfl (lv_at hl 1 rfl) ?_
    refine lv_iload_n hx hb dX7_becomes_41 rfl (lv_at hl 2 rfl) ?_
    refine x_V0 hx hb hml hown hE hS hl.1 cyX7_closes tw1004 (c_X7_closes_4 l g h I n c X1_ hc p hpp hpo hA hW k hk hlv) ⟨Nat.le_of_ble_eq_true rfl, Nat.le_of_ble_eq_true rfl⟩ ⟨Nat.le_of_ble_eq_true rfl, Nat.le_of_ble_eq_true rfl⟩ (x_recv hK hH (id := [20]) (by first | trivial | (simp only [xD]; omega) | (simp [xD]; done) | (simp [xD]; omega)) (ci := 7) rfl (by decide) rfl) hH rfl rfl (Nat.le_of_ble_eq_true rfl) dX7_becomes_42 (fun H locs hH hS => ?_)
    exact x_vret hx hb hr hlocks hS dX7_becomes_45 (by rw [hX1_, rw2_up2, up2_row] at hH; exact hH)

set_option maxHeartbeats 1000000 in
set_option maxRecDepth 100000 in
theorem c_X7_closes_5 (l : Launch) (g : xG) (h : xS) (I : xI) (n c : Nat) (X : xX) (hc : c < 4) (p : Nat) (hpp : p < 3) (hpo : I [24, 11] c = nI p) (hA : mA h I p) (hW : xWp h I p) (j : Nat) (hj : j < sSz h p) (hlv : sSz h p ≤ j + 1 + 5)  : xM l yX7_closes (xws yX7_closes cX7_closes 5 none) 11 247 g [.ref (ga g [20]), .int (nI c), .int (nI j)] (xR g (xD h) (mW I c X) (xFh h) n) none (xR g (xD h) (mW I c (rw2 X (clE (vP I p) (sSz h p) j (X 2)))) (xFh h) n) 0 0 := by
  refine xM.of (by decide) (Nat.le_of_ble_eq_true rfl) ?_
  intro P_ e_ s m_ bl_ mt_ cd_ ls hx hb hr hown hlocks hml hnm hE hK hts hH hS hl
  have hl : lv_has ls 5 [(0, .ref (ga g [20])), (1, .int (nI c)), (2, .int (nI j))] := hl
  have h8 := hW.1
  refine lv_aload_n hx hb dX7_closes_0 rfl (lv_at hl 0 rfl) ?_
  refine x_get (C := RX7) (T := TX7) (N := 24) (ci := 7) hx hb hts iu7 hown hK hH (id := [20]) (by first | trivial | (simp only [xD]; omega) | (simp [xD]; done) | (simp [xD]; omega)) rfl rfl (by decide) 11 (by decide) (hts _ tw850) (fun _ h9 => h9) rfl (v := .ref (ga g [24, 11])) rfl dX7_closes_1 ?_
  refine lv_iload_n hx hb dX7_closes_4 rfl (lv_at hl 1 rfl) ?_
  refine x_iald hx hb hK hH (id := [24, 11]) (by first | trivial | (simp only [xD]; omega) | (simp [xD]; done) | (simp [xD]; omega)) (L := 4) rfl (r := (I [24, 11])) rfl c rfl (by omega) (by decide) dX7_closes_5 ?_
  rw [show (I [24, 11] c) = (nI p) from hpo]
  refine lv_istore_n (lv' := [(3, .int (nI p)), (0, .ref (ga g [20])), (1, .int (nI c)), (2, .int (nI j))]) hx hb dX7_closes_6 rfl hl (by decide) rfl (fun ls hl => ?_)
  refine lv_iconst (v := 0) hx hb dX7_closes_7 (by decide) ?_
  refine lv_istore (lv' := [(4, .int 0), (3, .int (nI p)), (0, .ref (ga g [20])), (1, .int (nI c)), (2, .int (nI j))]) hx hb dX7_closes_8 hl (by decide) rfl (fun ls hl => ?_)
  have hH : xR g (xD h) (mW I c (rw2 X (X 2))) (xFh h) n s.heap := by rw [rw2_self]; exact hH
  have L10 : ∀ (fu : Nat) (i : Nat) (S : Nat → Int32) (H : Heap) (locs : List Loc) (ls : Array Slot), (i ≤ sSz h p) → (LI (vP I p) (sSz h p) j i (X 2) S) → sSz h p - i < fu → xR g (xD h) (mW I c (rw2 X S)) (xFh h) n H → va_S (gA g) s.heap H locs → lv_has ls 5 [(0, .ref (ga g [20])), (1, .int (nI c)), (2, .int (nI j)), (3, .int (nI p)), (4, .int (nI i))] → W P_ l e_ { frames := 11, cells := 0, slots := 0, locals := 247 } s m_ ([.ref (ga g [20]), .int (nI c), .int (nI j)] : List Value).toArray bl_ mt_ cd_ H locs 0 0 (MQ bl_ (xQc g none (xR g (xD h) (mW I c (rw2 X (clE (vP I p) (sSz h p) j (X 2)))) (xFh h) n)) ([.ref (ga g [20]), .int (nI c), .int (nI j)] : List Value).toArray s 0 0 (gA g)) (F0 m_ 10 ls []) := by
    intro fu
    induction fu with
    | zero => intro i S H locs ls hi hL hfu; exact absurd hfu (Nat.not_lt_zero _)
    | succ fu ih10 =>
      intro i S H locs ls hi hL hfu hH hS hl
      refine lv_iload hx hb dX7_closes_10 (lv_at hl 4 rfl) ?_
      refine lv_aload_n hx hb dX7_closes_12 rfl (lv_at hl 0 rfl) ?_
      refine x_get (C := RX7) (T := TX7) (N := 24) (ci := 7) hx hb hts iu7 hown hK hH (id := [20]) (by first | trivial | (simp only [xD]; omega) | (simp [xD]; done) | (simp [xD]; omega)) rfl rfl (by decide) 8 (by decide) (hts _ tw847) (fun _ h9 => h9) rfl (v := .ref (ga g [24, 8])) rfl dX7_closes_13 ?_
      refine lv_iload_n hx hb dX7_closes_16 rfl (lv_at hl 3 rfl) ?_
      refine x_iald hx hb hK hH (id := [24, 8]) (by first | trivial | (simp only [xD]; omega) | (simp [xD]; done) | (simp [xD]; omega)) (L := 3) rfl (r := (I [24, 8])) rfl p rfl (by omega) (by decide) dX7_closes_17 ?_
      rw [show (I [24, 8] p) = (nI (sSz h p)) from hA.1]
      refine lv_icmp_ge (tgt := 77) hx hb dX7_closes_18 (by decide) (fun c_18 => ?_) (fun c_18 => ?_)
      · skip
        have c_18 := (nI_leI (a := (sSz h p)) (b := i) (by omega) (by omega)).mp c_18
        have e : i = sSz h p := by omega
        have hcl := clE_eq hW.pW h8 hj (show LI (vP I p) (sSz h p) j (sSz h p) (X 2) S from e ▸ hL)
        exact x_vret hx hb hr hlocks hS dX7_closes_77 (by rw [← hcl]; exact hH)
      · skip
        have c_18 : ¬ _ := fun z_ => c_18 ((nI_leI (a := (sSz h p)) (b := i) (by omega) (by omega)).mpr z_)
        refine lv_aload_n hx hb dX7_closes_21 rfl (lv_at hl 0 rfl) ?_
        refine x_get (C := RX7) (T := TX7) (N := 24) (ci := 7) hx hb hts iu7 hown hK hH (id := [20]) (by first | trivial | (simp only [xD]; omega) | (simp [xD]; done) | (simp [xD]; omega)) rfl rfl (by decide) 1 (by decide) (hts _ tw840) (fun _ h9 => h9) rfl (v := .ref (ga g [21, 1])) rfl dX7_closes_22 ?_
        refine lv_iload_n hx hb dX7_closes_25 rfl (lv_at hl 3 rfl) ?_
        refine x_aald hx hb hK hH (id := [21, 1]) (by first | trivial | (simp only [xD]; omega) | (simp [xD]; done) | (simp [xD]; omega)) 7 (L := 3) rfl (by decide) p rfl (by omega) (by decide) (v := .ref (ga g [22, 1, p])) (by show rq _ (if _ then _ else _) = _; rw [if_pos (show p < xLn 1 by show _ < 3; omega)]; rfl) dX7_closes_26 ?_
        refine lv_iload hx hb dX7_closes_27 (lv_at hl 4 rfl) ?_
        refine x_iald hx hb hK hH (id := [22, 1, p]) (by first | trivial | (simp only [xD]; omega) | (simp [xD]; done) | (simp [xD]; omega)) (L := 8) rfl (r := (I [22, 1, p])) rfl i rfl (by omega) (by decide) dX7_closes_29 ?_
        rw [show (I [22, 1, p] i) = (I [7, p, i] 1) from (hA.2 i (by omega)).2.1]
        refine lv_iload_n hx hb dX7_closes_30 rfl (lv_at hl 2 rfl) ?_
        refine lv_icmp_ne (tgt := 71) hx hb dX7_closes_31 (by decide) (fun c_31 => ?_) (fun c_31 => ?_)
        · skip
          refine lv_iinc (v := (nI (i + 1))) (lv' := [(4, .int (nI (i + 1))), (0, .ref (ga g [20])), (1, .int (nI c)), (2, .int (nI j)), (3, .int (nI p))]) hx hb dX7_closes_71 hl (k := 4) rfl (by first | rfl | exact nI_1 _ | exact nI_add _ _) (by decide) rfl (fun ls hl => ?_)
          refine lv_goto (tgt := 10) hx hb dX7_closes_74 (by decide) ?_
          exact ih10 (i + 1) S _ _ _ (by omega) (LI_no hW.pW h8 hL (by omega) (fun z => c_31 z.1)) (by omega) hH hS (lv_sub hl [1, 2, 3, 4, 0] rfl)
        · skip
          refine lv_aload_n hx hb dX7_closes_34 rfl (lv_at hl 0 rfl) ?_
          refine x_get (C := RX7) (T := TX7) (N := 24) (ci := 7) hx hb hts iu7 hown hK hH (id := [20]) (by first | trivial | (simp only [xD]; omega) | (simp [xD]; done) | (simp [xD]; omega)) rfl rfl (by decide) 14 (by decide) (hts _ tw853) (fun _ h9 => h9) rfl (v := .ref (ga g [21, 14])) rfl dX7_closes_35 ?_
          refine lv_iload_n hx hb dX7_closes_38 rfl (lv_at hl 1 rfl) ?_
          refine x_aald hx hb hK hH (id := [21, 14]) (by first | trivial | (simp only [xD]; omega) | (simp [xD]; done) | (simp [xD]; omega)) 8 (L := 4) rfl (by decide) c rfl (by omega) (by decide) (v := .ref (ga g [22, 14, c])) (by show rq _ (if _ then _ else _) = _; rw [if_pos (show c < xLn 14 by show _ < 4; omega)]; rfl) dX7_closes_39 ?_
          refine lv_iload hx hb dX7_closes_40 (lv_at hl 4 rfl) ?_
          refine x_cald hx hb hK hH (id := [22, 14, c]) (by first | trivial | (simp only [xD]; omega) | (simp [xD]; done) | (simp [xD]; omega)) (L := 8) rfl (r := ((rw2 X S) 2)) (mW_r2 _ _ _) i rfl (by omega) (by decide) dX7_closes_42 ?_
          rw [show ((rw2 X S) 2 i) = (S i) from rfl]
          refine lv_bipush (v := 105) hx hb dX7_closes_43 (by decide) ?_
          refine lv_icmp_eq (tgt := 62) hx hb dX7_closes_45 (by decide) (fun c_45 => ?_) (fun c_45 => ?_)
          · skip
            refine lv_aload_n hx hb dX7_closes_62 rfl (lv_at hl 0 rfl) ?_
            refine lv_iload_n hx hb dX7_closes_63 rfl (lv_at hl 1 rfl) ?_
            refine lv_iload hx hb dX7_closes_64 (lv_at hl 4 rfl) ?_
            refine lv_bipush (v := 120) hx hb dX7_closes_66 (by decide) ?_
            refine x_V0 hx hb hml hown hE hS hl.1 cyX7_becomes tw1000 (c_X7_becomes_4_120 l g h I n c (rw2 X S) hc p hpp hpo hA hW i (by omega) (by have hp := pW_pA hW.pW h8 (show i < sSz h p by omega) (pA_of (P := vP I p) (by omega) c_31).2; have hq := (pA_of (P := vP I p) (i := i) (by omega) c_31).1; omega)) ⟨Nat.le_of_ble_eq_true rfl, Nat.le_of_ble_eq_true rfl⟩ ⟨Nat.le_of_ble_eq_true rfl, Nat.le_of_ble_eq_true rfl⟩ (x_recv hK hH (id := [20]) (by first | trivial | (simp only [xD]; omega) | (simp [xD]; done) | (simp [xD]; omega)) (ci := 7) rfl (by decide) rfl) hH rfl rfl (Nat.le_of_ble_eq_true rfl) dX7_closes_68 (fun H locs hH hS => ?_)
            rw [sEnd_rw2] at hH
            refine lv_iinc (v := (nI (i + 1))) (lv' := [(4, .int (nI (i + 1))), (0, .ref (ga g [20])), (1, .int (nI c)), (2, .int (nI j)), (3, .int (nI p))]) hx hb dX7_closes_71 hl (k := 4) rfl (by first | rfl | exact nI_1 _ | exact nI_add _ _) (by decide) rfl (fun ls hl => ?_)
            refine lv_goto (tgt := 10) hx hb dX7_closes_74 (by decide) ?_
            exact ih10 (i + 1) ((clE (vP I p) (sSz h p) i (fun q => if q = i then 120 else S q))) _ _ _ (by omega) (LI_yes hW.pW h8 hL (by omega) (by omega) c_31 (Or.inl c_45) (clE_LI _ hW.pW h8 (by omega))) (by omega) hH hS (lv_sub hl [1, 2, 3, 4, 0] rfl)
          · skip
            refine lv_aload_n hx hb dX7_closes_48 rfl (lv_at hl 0 rfl) ?_
            refine x_get (C := RX7) (T := TX7) (N := 24) (ci := 7) hx hb hts iu7 hown hK hH (id := [20]) (by first | trivial | (simp only [xD]; omega) | (simp [xD]; done) | (simp [xD]; omega)) rfl rfl (by decide) 14 (by decide) (hts _ tw853) (fun _ h9 => h9) rfl (v := .ref (ga g [21, 14])) rfl dX7_closes_49 ?_
            refine lv_iload_n hx hb dX7_closes_52 rfl (lv_at hl 1 rfl) ?_
            refine x_aald hx hb hK hH (id := [21, 14]) (by first | trivial | (simp only [xD]; omega) | (simp [xD]; done) | (simp [xD]; omega)) 8 (L := 4) rfl (by decide) c rfl (by omega) (by decide) (v := .ref (ga g [22, 14, c])) (by show rq _ (if _ then _ else _) = _; rw [if_pos (show c < xLn 14 by show _ < 4; omega)]; rfl) dX7_closes_53 ?_
            refine lv_iload hx hb dX7_closes_54 (lv_at hl 4 rfl) ?_
            refine x_cald hx hb hK hH (id := [22, 14, c]) (by first | trivial | (simp only [xD]; omega) | (simp [xD]; done) | (simp [xD]; omega)) (L := 8) rfl (r := ((rw2 X S) 2)) (mW_r2 _ _ _) i rfl (by omega) (by decide) dX7_closes_56 ?_
            rw [show ((rw2 X S) 2 i) = (S i) from rfl]
            refine lv_bipush (v := 97) hx hb dX7_closes_57 (by decide) ?_
            refine lv_icmp_ne (tgt := 71) hx hb dX7_closes_59 (by decide) (fun c_59 => ?_) (fun c_59 => ?_)
            · skip
              refine lv_iinc (v := (nI (i + 1))) (lv' := [(4, .int (nI (i + 1))), (0, .ref (ga g [20])), (1, .int (nI c)), (2, .int (nI j)), (3, .int (nI p))]) hx hb dX7_closes_71 hl (k := 4) rfl (by first | rfl | exact nI_1 _ | exact nI_add _ _) (by decide) rfl (fun ls hl => ?_)
              refine lv_goto (tgt := 10) hx hb dX7_closes_74 (by decide) ?_
              exact ih10 (i + 1) S _ _ _ (by omega) (LI_no hW.pW h8 hL (by omega) (fun z => z.2.elim c_45 c_59)) (by omega) hH hS (lv_sub hl [1, 2, 3, 4, 0] rfl)
            · skip
              refine lv_aload_n hx hb dX7_closes_62 rfl (lv_at hl 0 rfl) ?_
              refine lv_iload_n hx hb dX7_closes_63 rfl (lv_at hl 1 rfl) ?_
              refine lv_iload hx hb dX7_closes_64 (lv_at hl 4 rfl) ?_
              refine lv_bipush (v := 120) hx hb dX7_closes_66 (by decide) ?_
              refine x_V0 hx hb hml hown hE hS hl.1 cyX7_becomes tw1000 (c_X7_becomes_4_120 l g h I n c (rw2 X S) hc p hpp hpo hA hW i (by omega) (by have hp := pW_pA hW.pW h8 (show i < sSz h p by omega) (pA_of (P := vP I p) (by omega) c_31).2; have hq := (pA_of (P := vP I p) (i := i) (by omega) c_31).1; omega)) ⟨Nat.le_of_ble_eq_true rfl, Nat.le_of_ble_eq_true rfl⟩ ⟨Nat.le_of_ble_eq_true rfl, Nat.le_of_ble_eq_true rfl⟩ (x_recv hK hH (id := [20]) (by first | trivial | (simp only [xD]; omega) | (simp [xD]; done) | (simp [xD]; omega)) (ci := 7) rfl (by decide) rfl) hH rfl rfl (Nat.le_of_ble_eq_true rfl) dX7_closes_68 (fun H locs hH hS => ?_)
              rw [sEnd_rw2] at hH
              refine lv_iinc (v := (nI (i + 1))) (lv' := [(4, .int (nI (i + 1))), (0, .ref (ga g [20])), (1, .int (nI c)), (2, .int (nI j)), (3, .int (nI p))]) hx hb dX7_closes_71 hl (k := 4) rfl (by first | rfl | exact nI_1 _ | exact nI_add _ _) (by decide) rfl (fun ls hl => ?_)
              refine lv_goto (tgt := 10) hx hb dX7_closes_74 (by decide) ?_
              exact ih10 (i + 1) ((clE (vP I p) (sSz h p) i (fun q => if q = i then 120 else S q))) _ _ _ (by omega) (LI_yes hW.pW h8 hL (by omega) (by omega) c_31 (Or.inr c_59) (clE_LI _ hW.pW h8 (by omega))) (by omega) hH hS (lv_sub hl [1, 2, 3, 4, 0] rfl)
  exact L10 _ 0 ((X 2)) _ _ _ (Nat.zero_le _) (LI_0 _ _ _ _) (Nat.lt_succ_self _) hH hS (lv_sub hl [2, 3, 4, 1, 0] rfl)

set_option maxHeartbeats 1000000 in
set_option maxRecDepth 100000 in
theorem c_X7_becomes_5_120 (l : Launch) (g : xG) (h : xS) (I : xI) (n c : Nat) (X : xX) (hc : c < 4) (p : Nat) (hpp : p < 3) (hpo : I [24, 11] c = nI p) (hA : mA h I p) (hW : xWp h I p) (k : Nat) (hk : k < sSz h p) (hlv : sSz h p ≤ k + 1 + 5)  : xM l yX7_becomes (xws yX7_becomes cX7_becomes 4 none) 12 271 g [.ref (ga g [20]), .int (nI c), .int (nI k), .int 120] (xR g (xD h) (mW I c X) (xFh h) n) none (xR g (xD h) (mW I c (sEnd (vP I p) (sSz h p) X k 120)) (xFh h) n) 0 0 := by
  refine xM.of (by decide) (Nat.le_of_ble_eq_true rfl) ?_
  intro P_ e_ s m_ bl_ mt_ cd_ ls hx hb hr hown hlocks hml hnm hE hK hts hH hS hl
  have hl : lv_has ls 4 [(0, .ref (ga g [20])), (1, .int (nI c)), (2, .int (nI k)), (3, .int 120)] := hl
  have h8 := hW.1
  refine lv_aload_n hx hb dX7_becomes_0 rfl (lv_at hl 0 rfl) ?_
  refine x_get (C := RX7) (T := TX7) (N := 24) (ci := 7) hx hb hts iu7 hown hK hH (id := [20]) (by first | trivial | (simp only [xD]; omega) | (simp [xD]; done) | (simp [xD]; omega)) rfl rfl (by decide) 14 (by decide) (hts _ tw853) (fun _ h9 => h9) rfl (v := .ref (ga g [21, 14])) rfl dX7_becomes_1 ?_
  refine lv_iload_n hx hb dX7_becomes_4 rfl (lv_at hl 1 rfl) ?_
  refine x_aald hx hb hK hH (id := [21, 14]) (by first | trivial | (simp only [xD]; omega) | (simp [xD]; done) | (simp [xD]; omega)) 8 (L := 4) rfl (by decide) c rfl (by omega) (by decide) (v := .ref (ga g [22, 14, c])) (by show rq _ (if _ then _ else _) = _; rw [if_pos (show c < xLn 14 by show _ < 4; omega)]; rfl) dX7_becomes_5 ?_
  refine lv_iload_n hx hb dX7_becomes_6 rfl (lv_at hl 2 rfl) ?_
  refine lv_iload_n hx hb dX7_becomes_7 rfl (lv_at hl 3 rfl) ?_
  obtain ⟨X1_, hX1_⟩ : ∃ z, z = up2 X 2 k 120 := ⟨_, rfl⟩
  refine x_cast hx hb hK hH hS (id := [22, 14, c]) (by first | trivial | (simp only [xD]; omega) | (simp [xD]; done) | (simp [xD]; omega)) (L := 8) rfl k rfl (by omega) (by decide) (by rfl) ((mW_u2 _ _ _ _ _).trans (congrArg (mW I c) hX1_.symm)) dX7_becomes_8 (fun H locs hH hS => ?_)
  refine lv_aload_n hx hb dX7_becomes_9 rfl (lv_at hl 0 rfl) ?_
  refine x_get (C := RX7) (T := TX7) (N := 24) (ci := 7) hx hb hts iu7 hown hK hH (id := [20]) (by first | trivial | (simp only [xD]; omega) | (simp [xD]; done) | (simp [xD]; omega)) rfl rfl (by decide) 0 (by decide) (hts _ tw839) (fun _ h9 => h9) rfl (v := .ref (ga g [21, 0])) rfl dX7_becomes_10 ?_
  refine lv_aload_n hx hb dX7_becomes_13 rfl (lv_at hl 0 rfl) ?_
  refine x_get (C := RX7) (T := TX7) (N := 24) (ci := 7) hx hb hts iu7 hown hK hH (id := [20]) (by first | trivial | (simp only [xD]; omega) | (simp [xD]; done) | (simp [xD]; omega)) rfl rfl (by decide) 11 (by decide) (hts _ tw850) (fun _ h9 => h9) rfl (v := .ref (ga g [24, 11])) rfl dX7_becomes_14 ?_
  refine lv_iload_n hx hb dX7_becomes_17 rfl (lv_at hl 1 rfl) ?_
  refine x_iald hx hb hK hH (id := [24, 11]) (by first | trivial | (simp only [xD]; omega) | (simp [xD]; done) | (simp [xD]; omega)) (L := 4) rfl (r := (I [24, 11])) rfl c rfl (by omega) (by decide) dX7_becomes_18 ?_
  rw [show (I [24, 11] c) = (nI p) from hpo]
  refine x_aald hx hb hK hH (id := [21, 0]) (by first | trivial | (simp only [xD]; omega) | (simp [xD]; done) | (simp [xD]; omega)) 8 (L := 3) rfl (by decide) p rfl (by omega) (by decide) (v := .ref (ga g [22, 0, p])) (by show rq _ (if _ then _ else _) = _; rw [if_pos (show p < xLn 0 by show _ < 3; omega)]; rfl) dX7_becomes_19 ?_
  refine lv_iload_n hx hb dX7_becomes_20 rfl (lv_at hl 2 rfl) ?_
  refine x_cald hx hb hK hH (id := [22, 0, p]) (by first | trivial | (simp only [xD]; omega) | (simp [xD]; done) | (simp [xD]; omega)) (L := 8) rfl (r := (I [22, 0, p])) rfl k rfl (by omega) (by decide) dX7_becomes_21 ?_
  rw [show (I [22, 0, p] k) = (I [7, p, k] 0) from (hA.2 k (by omega)).1]
  refine lv_bipush (v := 115) hx hb dX7_becomes_22 (by decide) ?_
  refine lv_icmp_ne (tgt := 45) hx hb dX7_becomes_24 (by decide) (fun c_24 => ?_) (fun c_24 => ?_)
  · skip
    exact x_vret hx hb hr hlocks hS dX7_becomes_45 (by rw [sEnd_cl, ← clE_eq hW.pW h8 hk (LI_self (hW.leaf c_24)), ← up2_rw2, ← hX1_]; exact hH)
  · skip
    refine lv_iload_n hx hb dX7_becomes_27 rfl (lv_at hl 3 rfl) ?_
    refine lv_bipush (v := 99) hx hb dX7_becomes_28 (by decide) ?_
    refine lv_icmp_eq (tgt := 39) hx hb dX7_becomes_30 (by decide) (fun q_ => absurd q_ (by decide)) (fun _ => ?_)
    refine lv_iload_n hx hb dX7_becomes_33 rfl (lv_at hl 3 rfl) ?_
    refine lv_bipush (v := 120) hx hb dX7_becomes_34 (by decide) ?_
    refine lv_icmp_ne (tgt := 45) hx hb dX7_becomes_36 (by decide) (fun q_ => absurd (by decide) q_) (fun _ => ?_)
    refine lv_aload_n hx hb dX7_becomes_39 rfl (lv_at hl 0 rfl) ?_
    refine lv_iload_n hx hb dX7_becomes_40 rfl (lv_at hl 1 rfl) ?_
    refine lv_iload_n hx hb dX7_becomes_41 rfl (lv_at hl 2 rfl) ?_
    refine x_V0 hx hb hml hown hE hS hl.1 cyX7_closes tw1004 (c_X7_closes_5 l g h I n c X1_ hc p hpp hpo hA hW k hk hlv) ⟨Nat.le_of_ble_eq_true rfl, Nat.le_of_ble_eq_true rfl⟩ ⟨Nat.le_of_ble_eq_true rfl, Nat.le_of_ble_eq_true rfl⟩ (x_recv hK hH (id := [20]) (by first | trivial | (simp only [xD]; omega) | (simp [xD]; done) | (simp [xD]; omega)) (ci := 7) rfl (by decide) rfl) hH rfl rfl (Nat.le_of_ble_eq_true rfl) dX7_becomes_42 (fun H locs hH hS => ?_)
    exact x_vret hx hb hr hlocks hS dX7_becomes_45 (by rw [hX1_, rw2_up2, up2_row] at hH; exact hH)

set_option maxHeartbeats 1000000 in
set_option maxRecDepth 100000 in
theorem c_X7_closes_6 (l : Launch) (g : xG) (h : xS) (I : xI) (n c : Nat) (X : xX) (hc : c < 4) (p : Nat) (hpp : p < 3) (hpo : I [24, 11] c = nI p) (hA : mA h I p) (hW : xWp h I p) (j : Nat) (hj : j < sSz h p) (hlv : sSz h p ≤ j + 1 + 6)  : xM l yX7_closes (xws yX7_closes cX7_closes 5 none) 13 294 g [.ref (ga g [20]), .int (nI c), .int (nI j)] (xR g (xD h) (mW I c X) (xFh h) n) none (xR g (xD h) (mW I c (rw2 X (clE (vP I p) (sSz h p) j (X 2)))) (xFh h) n) 0 0 := by
  refine xM.of (by decide) (Nat.le_of_ble_eq_true rfl) ?_
  intro P_ e_ s m_ bl_ mt_ cd_ ls hx hb hr hown hlocks hml hnm hE hK hts hH hS hl
  have hl : lv_has ls 5 [(0, .ref (ga g [20])), (1, .int (nI c)), (2, .int (nI j))] := hl
  have h8 := hW.1
  refine lv_aload_n hx hb dX7_closes_0 rfl (lv_at hl 0 rfl) ?_
  refine x_get (C := RX7) (T := TX7) (N := 24) (ci := 7) hx hb hts iu7 hown hK hH (id := [20]) (by first | trivial | (simp only [xD]; omega) | (simp [xD]; done) | (simp [xD]; omega)) rfl rfl (by decide) 11 (by decide) (hts _ tw850) (fun _ h9 => h9) rfl (v := .ref (ga g [24, 11])) rfl dX7_closes_1 ?_
  refine lv_iload_n hx hb dX7_closes_4 rfl (lv_at hl 1 rfl) ?_
  refine x_iald hx hb hK hH (id := [24, 11]) (by first | trivial | (simp only [xD]; omega) | (simp [xD]; done) | (simp [xD]; omega)) (L := 4) rfl (r := (I [24, 11])) rfl c rfl (by omega) (by decide) dX7_closes_5 ?_
  rw [show (I [24, 11] c) = (nI p) from hpo]
  refine lv_istore_n (lv' := [(3, .int (nI p)), (0, .ref (ga g [20])), (1, .int (nI c)), (2, .int (nI j))]) hx hb dX7_closes_6 rfl hl (by decide) rfl (fun ls hl => ?_)
  refine lv_iconst (v := 0) hx hb dX7_closes_7 (by decide) ?_
  refine lv_istore (lv' := [(4, .int 0), (3, .int (nI p)), (0, .ref (ga g [20])), (1, .int (nI c)), (2, .int (nI j))]) hx hb dX7_closes_8 hl (by decide) rfl (fun ls hl => ?_)
  have hH : xR g (xD h) (mW I c (rw2 X (X 2))) (xFh h) n s.heap := by rw [rw2_self]; exact hH
  have L10 : ∀ (fu : Nat) (i : Nat) (S : Nat → Int32) (H : Heap) (locs : List Loc) (ls : Array Slot), (i ≤ sSz h p) → (LI (vP I p) (sSz h p) j i (X 2) S) → sSz h p - i < fu → xR g (xD h) (mW I c (rw2 X S)) (xFh h) n H → va_S (gA g) s.heap H locs → lv_has ls 5 [(0, .ref (ga g [20])), (1, .int (nI c)), (2, .int (nI j)), (3, .int (nI p)), (4, .int (nI i))] → W P_ l e_ { frames := 13, cells := 0, slots := 0, locals := 294 } s m_ ([.ref (ga g [20]), .int (nI c), .int (nI j)] : List Value).toArray bl_ mt_ cd_ H locs 0 0 (MQ bl_ (xQc g none (xR g (xD h) (mW I c (rw2 X (clE (vP I p) (sSz h p) j (X 2)))) (xFh h) n)) ([.ref (ga g [20]), .int (nI c), .int (nI j)] : List Value).toArray s 0 0 (gA g)) (F0 m_ 10 ls []) := by
    intro fu
    induction fu with
    | zero => intro i S H locs ls hi hL hfu; exact absurd hfu (Nat.not_lt_zero _)
    | succ fu ih10 =>
      intro i S H locs ls hi hL hfu hH hS hl
      refine lv_iload hx hb dX7_closes_10 (lv_at hl 4 rfl) ?_
      refine lv_aload_n hx hb dX7_closes_12 rfl (lv_at hl 0 rfl) ?_
      refine x_get (C := RX7) (T := TX7) (N := 24) (ci := 7) hx hb hts iu7 hown hK hH (id := [20]) (by first | trivial | (simp only [xD]; omega) | (simp [xD]; done) | (simp [xD]; omega)) rfl rfl (by decide) 8 (by decide) (hts _ tw847) (fun _ h9 => h9) rfl (v := .ref (ga g [24, 8])) rfl dX7_closes_13 ?_
      refine lv_iload_n hx hb dX7_closes_16 rfl (lv_at hl 3 rfl) ?_
      refine x_iald hx hb hK hH (id := [24, 8]) (by first | trivial | (simp only [xD]; omega) | (simp [xD]; done) | (simp [xD]; omega)) (L := 3) rfl (r := (I [24, 8])) rfl p rfl (by omega) (by decide) dX7_closes_17 ?_
      rw [show (I [24, 8] p) = (nI (sSz h p)) from hA.1]
      refine lv_icmp_ge (tgt := 77) hx hb dX7_closes_18 (by decide) (fun c_18 => ?_) (fun c_18 => ?_)
      · skip
        have c_18 := (nI_leI (a := (sSz h p)) (b := i) (by omega) (by omega)).mp c_18
        have e : i = sSz h p := by omega
        have hcl := clE_eq hW.pW h8 hj (show LI (vP I p) (sSz h p) j (sSz h p) (X 2) S from e ▸ hL)
        exact x_vret hx hb hr hlocks hS dX7_closes_77 (by rw [← hcl]; exact hH)
      · skip
        have c_18 : ¬ _ := fun z_ => c_18 ((nI_leI (a := (sSz h p)) (b := i) (by omega) (by omega)).mpr z_)
        refine lv_aload_n hx hb dX7_closes_21 rfl (lv_at hl 0 rfl) ?_
        refine x_get (C := RX7) (T := TX7) (N := 24) (ci := 7) hx hb hts iu7 hown hK hH (id := [20]) (by first | trivial | (simp only [xD]; omega) | (simp [xD]; done) | (simp [xD]; omega)) rfl rfl (by decide) 1 (by decide) (hts _ tw840) (fun _ h9 => h9) rfl (v := .ref (ga g [21, 1])) rfl dX7_closes_22 ?_
        refine lv_iload_n hx hb dX7_closes_25 rfl (lv_at hl 3 rfl) ?_
        refine x_aald hx hb hK hH (id := [21, 1]) (by first | trivial | (simp only [xD]; omega) | (simp [xD]; done) | (simp [xD]; omega)) 7 (L := 3) rfl (by decide) p rfl (by omega) (by decide) (v := .ref (ga g [22, 1, p])) (by show rq _ (if _ then _ else _) = _; rw [if_pos (show p < xLn 1 by show _ < 3; omega)]; rfl) dX7_closes_26 ?_
        refine lv_iload hx hb dX7_closes_27 (lv_at hl 4 rfl) ?_
        refine x_iald hx hb hK hH (id := [22, 1, p]) (by first | trivial | (simp only [xD]; omega) | (simp [xD]; done) | (simp [xD]; omega)) (L := 8) rfl (r := (I [22, 1, p])) rfl i rfl (by omega) (by decide) dX7_closes_29 ?_
        rw [show (I [22, 1, p] i) = (I [7, p, i] 1) from (hA.2 i (by omega)).2.1]
        refine lv_iload_n hx hb dX7_closes_30 rfl (lv_at hl 2 rfl) ?_
        refine lv_icmp_ne (tgt := 71) hx hb dX7_closes_31 (by decide) (fun c_31 => ?_) (fun c_31 => ?_)
        · skip
          refine lv_iinc (v := (nI (i + 1))) (lv' := [(4, .int (nI (i + 1))), (0, .ref (ga g [20])), (1, .int (nI c)), (2, .int (nI j)), (3, .int (nI p))]) hx hb dX7_closes_71 hl (k := 4) rfl (by first | rfl | exact nI_1 _ | exact nI_add _ _) (by decide) rfl (fun ls hl => ?_)
          refine lv_goto (tgt := 10) hx hb dX7_closes_74 (by decide) ?_
          exact ih10 (i + 1) S _ _ _ (by omega) (LI_no hW.pW h8 hL (by omega) (fun z => c_31 z.1)) (by omega) hH hS (lv_sub hl [1, 2, 3, 4, 0] rfl)
        · skip
          refine lv_aload_n hx hb dX7_closes_34 rfl (lv_at hl 0 rfl) ?_
          refine x_get (C := RX7) (T := TX7) (N := 24) (ci := 7) hx hb hts iu7 hown hK hH (id := [20]) (by first | trivial | (simp only [xD]; omega) | (simp [xD]; done) | (simp [xD]; omega)) rfl rfl (by decide) 14 (by decide) (hts _ tw853) (fun _ h9 => h9) rfl (v := .ref (ga g [21, 14])) rfl dX7_closes_35 ?_
          refine lv_iload_n hx hb dX7_closes_38 rfl (lv_at hl 1 rfl) ?_
          refine x_aald hx hb hK hH (id := [21, 14]) (by first | trivial | (simp only [xD]; omega) | (simp [xD]; done) | (simp [xD]; omega)) 8 (L := 4) rfl (by decide) c rfl (by omega) (by decide) (v := .ref (ga g [22, 14, c])) (by show rq _ (if _ then _ else _) = _; rw [if_pos (show c < xLn 14 by show _ < 4; omega)]; rfl) dX7_closes_39 ?_
          refine lv_iload hx hb dX7_closes_40 (lv_at hl 4 rfl) ?_
          refine x_cald hx hb hK hH (id := [22, 14, c]) (by first | trivial | (simp only [xD]; omega) | (simp [xD]; done) | (simp [xD]; omega)) (L := 8) rfl (r := ((rw2 X S) 2)) (mW_r2 _ _ _) i rfl (by omega) (by decide) dX7_closes_42 ?_
          rw [show ((rw2 X S) 2 i) = (S i) from rfl]
          refine lv_bipush (v := 105) hx hb dX7_closes_43 (by decide) ?_
          refine lv_icmp_eq (tgt := 62) hx hb dX7_closes_45 (by decide) (fun c_45 => ?_) (fun c_45 => ?_)
          · skip
            refine lv_aload_n hx hb dX7_closes_62 rfl (lv_at hl 0 rfl) ?_
            refine lv_iload_n hx hb dX7_closes_63 rfl (lv_at hl 1 rfl) ?_
            refine lv_iload hx hb dX7_closes_64 (lv_at hl 4 rfl) ?_
            refine lv_bipush (v := 120) hx hb dX7_closes_66 (by decide) ?_
            refine x_V0 hx hb hml hown hE hS hl.1 cyX7_becomes tw1000 (c_X7_becomes_5_120 l g h I n c (rw2 X S) hc p hpp hpo hA hW i (by omega) (by have hp := pW_pA hW.pW h8 (show i < sSz h p by omega) (pA_of (P := vP I p) (by omega) c_31).2; have hq := (pA_of (P := vP I p) (i := i) (by omega) c_31).1; omega)) ⟨Nat.le_of_ble_eq_true rfl, Nat.le_of_ble_eq_true rfl⟩ ⟨Nat.le_of_ble_eq_true rfl, Nat.le_of_ble_eq_true rfl⟩ (x_recv hK hH (id := [20]) (by first | trivial | (simp only [xD]; omega) | (simp [xD]; done) | (simp [xD]; omega)) (ci := 7) rfl (by decide) rfl) hH rfl rfl (Nat.le_of_ble_eq_true rfl) dX7_closes_68 (fun H locs hH hS => ?_)
            rw [sEnd_rw2] at hH
            refine lv_iinc (v := (nI (i + 1))) (lv' := [(4, .int (nI (i + 1))), (0, .ref (ga g [20])), (1, .int (nI c)), (2, .int (nI j)), (3, .int (nI p))]) hx hb dX7_closes_71 hl (k := 4) rfl (by first | rfl | exact nI_1 _ | exact nI_add _ _) (by decide) rfl (fun ls hl => ?_)
            refine lv_goto (tgt := 10) hx hb dX7_closes_74 (by decide) ?_
            exact ih10 (i + 1) ((clE (vP I p) (sSz h p) i (fun q => if q = i then 120 else S q))) _ _ _ (by omega) (LI_yes hW.pW h8 hL (by omega) (by omega) c_31 (Or.inl c_45) (clE_LI _ hW.pW h8 (by omega))) (by omega) hH hS (lv_sub hl [1, 2, 3, 4, 0] rfl)
          · skip
            refine lv_aload_n hx hb dX7_closes_48 rfl (lv_at hl 0 rfl) ?_
            refine x_get (C := RX7) (T := TX7) (N := 24) (ci := 7) hx hb hts iu7 hown hK hH (id := [20]) (by first | trivial | (simp only [xD]; omega) | (simp [xD]; done) | (simp [xD]; omega)) rfl rfl (by decide) 14 (by decide) (hts _ tw853) (fun _ h9 => h9) rfl (v := .ref (ga g [21, 14])) rfl dX7_closes_49 ?_
            refine lv_iload_n hx hb dX7_closes_52 rfl (lv_at hl 1 rfl) ?_
            refine x_aald hx hb hK hH (id := [21, 14]) (by first | trivial | (simp only [xD]; omega) | (simp [xD]; done) | (simp [xD]; omega)) 8 (L := 4) rfl (by decide) c rfl (by omega) (by decide) (v := .ref (ga g [22, 14, c])) (by show rq _ (if _ then _ else _) = _; rw [if_pos (show c < xLn 14 by show _ < 4; omega)]; rfl) dX7_closes_53 ?_
            refine lv_iload hx hb dX7_closes_54 (lv_at hl 4 rfl) ?_
            refine x_cald hx hb hK hH (id := [22, 14, c]) (by first | trivial | (simp only [xD]; omega) | (simp [xD]; done) | (simp [xD]; omega)) (L := 8) rfl (r := ((rw2 X S) 2)) (mW_r2 _ _ _) i rfl (by omega) (by decide) dX7_closes_56 ?_
            rw [show ((rw2 X S) 2 i) = (S i) from rfl]
            refine lv_bipush (v := 97) hx hb dX7_closes_57 (by decide) ?_
            refine lv_icmp_ne (tgt := 71) hx hb dX7_closes_59 (by decide) (fun c_59 => ?_) (fun c_59 => ?_)
            · skip
              refine lv_iinc (v := (nI (i + 1))) (lv' := [(4, .int (nI (i + 1))), (0, .ref (ga g [20])), (1, .int (nI c)), (2, .int (nI j)), (3, .int (nI p))]) hx hb dX7_closes_71 hl (k := 4) rfl (by first | rfl | exact nI_1 _ | exact nI_add _ _) (by decide) rfl (fun ls hl => ?_)
              refine lv_goto (tgt := 10) hx hb dX7_closes_74 (by decide) ?_
              exact ih10 (i + 1) S _ _ _ (by omega) (LI_no hW.pW h8 hL (by omega) (fun z => z.2.elim c_45 c_59)) (by omega) hH hS (lv_sub hl [1, 2, 3, 4, 0] rfl)
            · skip
              refine lv_aload_n hx hb dX7_closes_62 rfl (lv_at hl 0 rfl) ?_
              refine lv_iload_n hx hb dX7_closes_63 rfl (lv_at hl 1 rfl) ?_
              refine lv_iload hx hb dX7_closes_64 (lv_at hl 4 rfl) ?_
              refine lv_bipush (v := 120) hx hb dX7_closes_66 (by decide) ?_
              refine x_V0 hx hb hml hown hE hS hl.1 cyX7_becomes tw1000 (c_X7_becomes_5_120 l g h I n c (rw2 X S) hc p hpp hpo hA hW i (by omega) (by have hp := pW_pA hW.pW h8 (show i < sSz h p by omega) (pA_of (P := vP I p) (by omega) c_31).2; have hq := (pA_of (P := vP I p) (i := i) (by omega) c_31).1; omega)) ⟨Nat.le_of_ble_eq_true rfl, Nat.le_of_ble_eq_true rfl⟩ ⟨Nat.le_of_ble_eq_true rfl, Nat.le_of_ble_eq_true rfl⟩ (x_recv hK hH (id := [20]) (by first | trivial | (simp only [xD]; omega) | (simp [xD]; done) | (simp [xD]; omega)) (ci := 7) rfl (by decide) rfl) hH rfl rfl (Nat.le_of_ble_eq_true rfl) dX7_closes_68 (fun H locs hH hS => ?_)
              rw [sEnd_rw2] at hH
              refine lv_iinc (v := (nI (i + 1))) (lv' := [(4, .int (nI (i + 1))), (0, .ref (ga g [20])), (1, .int (nI c)), (2, .int (nI j)), (3, .int (nI p))]) hx hb dX7_closes_71 hl (k := 4) rfl (by first | rfl | exact nI_1 _ | exact nI_add _ _) (by decide) rfl (fun ls hl => ?_)
              refine lv_goto (tgt := 10) hx hb dX7_closes_74 (by decide) ?_
              exact ih10 (i + 1) ((clE (vP I p) (sSz h p) i (fun q => if q = i then 120 else S q))) _ _ _ (by omega) (LI_yes hW.pW h8 hL (by omega) (by omega) c_31 (Or.inr c_59) (clE_LI _ hW.pW h8 (by omega))) (by omega) hH hS (lv_sub hl [1, 2, 3, 4, 0] rfl)
  exact L10 _ 0 ((X 2)) _ _ _ (Nat.zero_le _) (LI_0 _ _ _ _) (Nat.lt_succ_self _) hH hS (lv_sub hl [2, 3, 4, 1, 0] rfl)

set_option maxHeartbeats 1000000 in
set_option maxRecDepth 100000 in
theorem c_X7_becomes_6_120 (l : Launch) (g : xG) (h : xS) (I : xI) (n c : Nat) (X : xX) (hc : c < 4) (p : Nat) (hpp : p < 3) (hpo : I [24, 11] c = nI p) (hA : mA h I p) (hW : xWp h I p) (k : Nat) (hk : k < sSz h p) (hlv : sSz h p ≤ k + 1 + 6)  : xM l yX7_becomes (xws yX7_becomes cX7_becomes 4 none) 14 318 g [.ref (ga g [20]), .int (nI c), .int (nI k), .int 120] (xR g (xD h) (mW I c X) (xFh h) n) none (xR g (xD h) (mW I c (sEnd (vP I p) (sSz h p) X k 120)) (xFh h) n) 0 0 := by
  refine xM.of (by decide) (Nat.le_of_ble_eq_true rfl) ?_
  intro P_ e_ s m_ bl_ mt_ cd_ ls hx hb hr hown hlocks hml hnm hE hK hts hH hS hl
  have hl : lv_has ls 4 [(0, .ref (ga g [20])), (1, .int (nI c)), (2, .int (nI k)), (3, .int 120)] := hl
  have h8 := hW.1
  refine lv_aload_n hx hb dX7_becomes_0 rfl (lv_at hl 0 rfl) ?_
  refine x_get (C := RX7) (T := TX7) (N := 24) (ci := 7) hx hb hts iu7 hown hK hH (id := [20]) (by first | trivial | (simp only [xD]; omega) | (simp [xD]; done) | (simp [xD]; omega)) rfl rfl (by decide) 14 (by decide) (hts _ tw853) (fun _ h9 => h9) rfl (v := .ref (ga g [21, 14])) rfl dX7_becomes_1 ?_
  refine lv_iload_n hx hb dX7_becomes_4 rfl (lv_at hl 1 rfl) ?_
  refine x_aald hx hb hK hH (id := [21, 14]) (by first | trivial | (simp only [xD]; omega) | (simp [xD]; done) | (simp [xD]; omega)) 8 (L := 4) rfl (by decide) c rfl (by omega) (by decide) (v := .ref (ga g [22, 14, c])) (by show rq _ (if _ then _ else _) = _; rw [if_pos (show c < xLn 14 by show _ < 4; omega)]; rfl) dX7_becomes_5 ?_
  refine lv_iload_n hx hb dX7_becomes_6 rfl (lv_at hl 2 rfl) ?_
  refine lv_iload_n hx hb dX7_becomes_7 rfl (lv_at hl 3 rfl) ?_
  obtain ⟨X1_, hX1_⟩ : ∃ z, z = up2 X 2 k 120 := ⟨_, rfl⟩
  refine x_cast hx hb hK hH hS (id := [22, 14, c]) (by first | trivial | (simp only [xD]; omega) | (simp [xD]; done) | (simp [xD]; omega)) (L := 8) rfl k rfl (by omega) (by decide) (by rfl) ((mW_u2 _ _ _ _ _).trans (congrArg (mW I c) hX1_.symm)) dX7_becomes_8 (fun H locs hH hS => ?_)
  refine lv_aload_n hx hb dX7_becomes_9 rfl (lv_at hl 0 rfl) ?_
  refine x_get (C := RX7) (T := TX7) (N := 24) (ci := 7) hx hb hts iu7 hown hK hH (id := [20]) (by first | trivial | (simp only [xD]; omega) | (simp [xD]; done) | (simp [xD]; omega)) rfl rfl (by decide) 0 (by decide) (hts _ tw839) (fun _ h9 => h9) rfl (v := .ref (ga g [21, 0])) rfl dX7_becomes_10 ?_
  refine lv_aload_n hx hb dX7_becomes_13 rfl (lv_at hl 0 rfl) ?_
  refine x_get (C := RX7) (T := TX7) (N := 24) (ci := 7) hx hb hts iu7 hown hK hH (id := [20]) (by first | trivial | (simp only [xD]; omega) | (simp [xD]; done) | (simp [xD]; omega)) rfl rfl (by decide) 11 (by decide) (hts _ tw850) (fun _ h9 => h9) rfl (v := .ref (ga g [24, 11])) rfl dX7_becomes_14 ?_
  refine lv_iload_n hx hb dX7_becomes_17 rfl (lv_at hl 1 rfl) ?_
  refine x_iald hx hb hK hH (id := [24, 11]) (by first | trivial | (simp only [xD]; omega) | (simp [xD]; done) | (simp [xD]; omega)) (L := 4) rfl (r := (I [24, 11])) rfl c rfl (by omega) (by decide) dX7_becomes_18 ?_
  rw [show (I [24, 11] c) = (nI p) from hpo]
  refine x_aald hx hb hK hH (id := [21, 0]) (by first | trivial | (simp only [xD]; omega) | (simp [xD]; done) | (simp [xD]; omega)) 8 (L := 3) rfl (by decide) p rfl (by omega) (by decide) (v := .ref (ga g [22, 0, p])) (by show rq _ (if _ then _ else _) = _; rw [if_pos (show p < xLn 0 by show _ < 3; omega)]; rfl) dX7_becomes_19 ?_
  refine lv_iload_n hx hb dX7_becomes_20 rfl (lv_at hl 2 rfl) ?_
  refine x_cald hx hb hK hH (id := [22, 0, p]) (by first | trivial | (simp only [xD]; omega) | (simp [xD]; done) | (simp [xD]; omega)) (L := 8) rfl (r := (I [22, 0, p])) rfl k rfl (by omega) (by decide) dX7_becomes_21 ?_
  rw [show (I [22, 0, p] k) = (I [7, p, k] 0) from (hA.2 k (by omega)).1]
  refine lv_bipush (v := 115) hx hb dX7_becomes_22 (by decide) ?_
  refine lv_icmp_ne (tgt := 45) hx hb dX7_becomes_24 (by decide) (fun c_24 => ?_) (fun c_24 => ?_)
  · skip
    exact x_vret hx hb hr hlocks hS dX7_becomes_45 (by rw [sEnd_cl, ← clE_eq hW.pW h8 hk (LI_self (hW.leaf c_24)), ← up2_rw2, ← hX1_]; exact hH)
  · skip
    refine lv_iload_n hx hb dX7_becomes_27 rfl (lv_at hl 3 rfl) ?_
    refine lv_bipush (v := 99) hx hb dX7_becomes_28 (by decide) ?_
    refine lv_icmp_eq (tgt := 39) hx hb dX7_becomes_30 (by decide) (fun q_ => absurd q_ (by decide)) (fun _ => ?_)
    refine lv_iload_n hx hb dX7_becomes_33 rfl (lv_at hl 3 rfl) ?_
    refine lv_bipush (v := 120) hx hb dX7_becomes_34 (by decide) ?_
    refine lv_icmp_ne (tgt := 45) hx hb dX7_becomes_36 (by decide) (fun q_ => absurd (by decide) q_) (fun _ => ?_)
    refine lv_aload_n hx hb dX7_becomes_39 rfl (lv_at hl 0 rfl) ?_
    refine lv_iload_n hx hb dX7_becomes_40 rfl (lv_at hl 1 rfl) ?_
    refine lv_iload_n hx hb dX7_becomes_41 rfl (lv_at hl 2 rfl) ?_
    refine x_V0 hx hb hml hown hE hS hl.1 cyX7_closes tw1004 (c_X7_closes_6 l g h I n c X1_ hc p hpp hpo hA hW k hk hlv) ⟨Nat.le_of_ble_eq_true rfl, Nat.le_of_ble_eq_true rfl⟩ ⟨Nat.le_of_ble_eq_true rfl, Nat.le_of_ble_eq_true rfl⟩ (x_recv hK hH (id := [20]) (by first | trivial | (simp only [xD]; omega) | (simp [xD]; done) | (simp [xD]; omega)) (ci := 7) rfl (by decide) rfl) hH rfl rfl (Nat.le_of_ble_eq_true rfl) dX7_becomes_42 (fun H locs hH hS => ?_)
    exact x_vret hx hb hr hlocks hS dX7_becomes_45 (by rw [hX1_, rw2_up2, up2_row] at hH; exact hH)

set_option maxHeartbeats 1000000 in
set_option maxRecDepth 100000 in
theorem c_X7_closes_7 (l : Launch) (g : xG) (h : xS) (I : xI) (n c : Nat) (X : xX) (hc : c < 4) (p : Nat) (hpp : p < 3) (hpo : I [24, 11] c = nI p) (hA : mA h I p) (hW : xWp h I p) (j : Nat) (hj : j < sSz h p) (hlv : sSz h p ≤ j + 1 + 7)  : xM l yX7_closes (xws yX7_closes cX7_closes 5 none) 15 341 g [.ref (ga g [20]), .int (nI c), .int (nI j)] (xR g (xD h) (mW I c X) (xFh h) n) none (xR g (xD h) (mW I c (rw2 X (clE (vP I p) (sSz h p) j (X 2)))) (xFh h) n) 0 0 := by
  refine xM.of (by decide) (Nat.le_of_ble_eq_true rfl) ?_
  intro P_ e_ s m_ bl_ mt_ cd_ ls hx hb hr hown hlocks hml hnm hE hK hts hH hS hl
  have hl : lv_has ls 5 [(0, .ref (ga g [20])), (1, .int (nI c)), (2, .int (nI j))] := hl
  have h8 := hW.1
  refine lv_aload_n hx hb dX7_closes_0 rfl (lv_at hl 0 rfl) ?_
  refine x_get (C := RX7) (T := TX7) (N := 24) (ci := 7) hx hb hts iu7 hown hK hH (id := [20]) (by first | trivial | (simp only [xD]; omega) | (simp [xD]; done) | (simp [xD]; omega)) rfl rfl (by decide) 11 (by decide) (hts _ tw850) (fun _ h9 => h9) rfl (v := .ref (ga g [24, 11])) rfl dX7_closes_1 ?_
  refine lv_iload_n hx hb dX7_closes_4 rfl (lv_at hl 1 rfl) ?_
  refine x_iald hx hb hK hH (id := [24, 11]) (by first | trivial | (simp only [xD]; omega) | (simp [xD]; done) | (simp [xD]; omega)) (L := 4) rfl (r := (I [24, 11])) rfl c rfl (by omega) (by decide) dX7_closes_5 ?_
  rw [show (I [24, 11] c) = (nI p) from hpo]
  refine lv_istore_n (lv' := [(3, .int (nI p)), (0, .ref (ga g [20])), (1, .int (nI c)), (2, .int (nI j))]) hx hb dX7_closes_6 rfl hl (by decide) rfl (fun ls hl => ?_)
  refine lv_iconst (v := 0) hx hb dX7_closes_7 (by decide) ?_
  refine lv_istore (lv' := [(4, .int 0), (3, .int (nI p)), (0, .ref (ga g [20])), (1, .int (nI c)), (2, .int (nI j))]) hx hb dX7_closes_8 hl (by decide) rfl (fun ls hl => ?_)
  have hH : xR g (xD h) (mW I c (rw2 X (X 2))) (xFh h) n s.heap := by rw [rw2_self]; exact hH
  have L10 : ∀ (fu : Nat) (i : Nat) (S : Nat → Int32) (H : Heap) (locs : List Loc) (ls : Array Slot), (i ≤ sSz h p) → (LI (vP I p) (sSz h p) j i (X 2) S) → sSz h p - i < fu → xR g (xD h) (mW I c (rw2 X S)) (xFh h) n H → va_S (gA g) s.heap H locs → lv_has ls 5 [(0, .ref (ga g [20])), (1, .int (nI c)), (2, .int (nI j)), (3, .int (nI p)), (4, .int (nI i))] → W P_ l e_ { frames := 15, cells := 0, slots := 0, locals := 341 } s m_ ([.ref (ga g [20]), .int (nI c), .int (nI j)] : List Value).toArray bl_ mt_ cd_ H locs 0 0 (MQ bl_ (xQc g none (xR g (xD h) (mW I c (rw2 X (clE (vP I p) (sSz h p) j (X 2)))) (xFh h) n)) ([.ref (ga g [20]), .int (nI c), .int (nI j)] : List Value).toArray s 0 0 (gA g)) (F0 m_ 10 ls []) := by
    intro fu
    induction fu with
    | zero => intro i S H locs ls hi hL hfu; exact absurd hfu (Nat.not_lt_zero _)
    | succ fu ih10 =>
      intro i S H locs ls hi hL hfu hH hS hl
      refine lv_iload hx hb dX7_closes_10 (lv_at hl 4 rfl) ?_
      refine lv_aload_n hx hb dX7_closes_12 rfl (lv_at hl 0 rfl) ?_
      refine x_get (C := RX7) (T := TX7) (N := 24) (ci := 7) hx hb hts iu7 hown hK hH (id := [20]) (by first | trivial | (simp only [xD]; omega) | (simp [xD]; done) | (simp [xD]; omega)) rfl rfl (by decide) 8 (by decide) (hts _ tw847) (fun _ h9 => h9) rfl (v := .ref (ga g [24, 8])) rfl dX7_closes_13 ?_
      refine lv_iload_n hx hb dX7_closes_16 rfl (lv_at hl 3 rfl) ?_
      refine x_iald hx hb hK hH (id := [24, 8]) (by first | trivial | (simp only [xD]; omega) | (simp [xD]; done) | (simp [xD]; omega)) (L := 3) rfl (r := (I [24, 8])) rfl p rfl (by omega) (by decide) dX7_closes_17 ?_
      rw [show (I [24, 8] p) = (nI (sSz h p)) from hA.1]
      refine lv_icmp_ge (tgt := 77) hx hb dX7_closes_18 (by decide) (fun c_18 => ?_) (fun c_18 => ?_)
      · skip
        have c_18 := (nI_leI (a := (sSz h p)) (b := i) (by omega) (by omega)).mp c_18
        have e : i = sSz h p := by omega
        have hcl := clE_eq hW.pW h8 hj (show LI (vP I p) (sSz h p) j (sSz h p) (X 2) S from e ▸ hL)
        exact x_vret hx hb hr hlocks hS dX7_closes_77 (by rw [← hcl]; exact hH)
      · skip
        have c_18 : ¬ _ := fun z_ => c_18 ((nI_leI (a := (sSz h p)) (b := i) (by omega) (by omega)).mpr z_)
        refine lv_aload_n hx hb dX7_closes_21 rfl (lv_at hl 0 rfl) ?_
        refine x_get (C := RX7) (T := TX7) (N := 24) (ci := 7) hx hb hts iu7 hown hK hH (id := [20]) (by first | trivial | (simp only [xD]; omega) | (simp [xD]; done) | (simp [xD]; omega)) rfl rfl (by decide) 1 (by decide) (hts _ tw840) (fun _ h9 => h9) rfl (v := .ref (ga g [21, 1])) rfl dX7_closes_22 ?_
        refine lv_iload_n hx hb dX7_closes_25 rfl (lv_at hl 3 rfl) ?_
        refine x_aald hx hb hK hH (id := [21, 1]) (by first | trivial | (simp only [xD]; omega) | (simp [xD]; done) | (simp [xD]; omega)) 7 (L := 3) rfl (by decide) p rfl (by omega) (by decide) (v := .ref (ga g [22, 1, p])) (by show rq _ (if _ then _ else _) = _; rw [if_pos (show p < xLn 1 by show _ < 3; omega)]; rfl) dX7_closes_26 ?_
        refine lv_iload hx hb dX7_closes_27 (lv_at hl 4 rfl) ?_
        refine x_iald hx hb hK hH (id := [22, 1, p]) (by first | trivial | (simp only [xD]; omega) | (simp [xD]; done) | (simp [xD]; omega)) (L := 8) rfl (r := (I [22, 1, p])) rfl i rfl (by omega) (by decide) dX7_closes_29 ?_
        rw [show (I [22, 1, p] i) = (I [7, p, i] 1) from (hA.2 i (by omega)).2.1]
        refine lv_iload_n hx hb dX7_closes_30 rfl (lv_at hl 2 rfl) ?_
        refine lv_icmp_ne (tgt := 71) hx hb dX7_closes_31 (by decide) (fun c_31 => ?_) (fun c_31 => ?_)
        · skip
          refine lv_iinc (v := (nI (i + 1))) (lv' := [(4, .int (nI (i + 1))), (0, .ref (ga g [20])), (1, .int (nI c)), (2, .int (nI j)), (3, .int (nI p))]) hx hb dX7_closes_71 hl (k := 4) rfl (by first | rfl | exact nI_1 _ | exact nI_add _ _) (by decide) rfl (fun ls hl => ?_)
          refine lv_goto (tgt := 10) hx hb dX7_closes_74 (by decide) ?_
          exact ih10 (i + 1) S _ _ _ (by omega) (LI_no hW.pW h8 hL (by omega) (fun z => c_31 z.1)) (by omega) hH hS (lv_sub hl [1, 2, 3, 4, 0] rfl)
        · skip
          refine lv_aload_n hx hb dX7_closes_34 rfl (lv_at hl 0 rfl) ?_
          refine x_get (C := RX7) (T := TX7) (N := 24) (ci := 7) hx hb hts iu7 hown hK hH (id := [20]) (by first | trivial | (simp only [xD]; omega) | (simp [xD]; done) | (simp [xD]; omega)) rfl rfl (by decide) 14 (by decide) (hts _ tw853) (fun _ h9 => h9) rfl (v := .ref (ga g [21, 14])) rfl dX7_closes_35 ?_
          refine lv_iload_n hx hb dX7_closes_38 rfl (lv_at hl 1 rfl) ?_
          refine x_aald hx hb hK hH (id := [21, 14]) (by first | trivial | (simp only [xD]; omega) | (simp [xD]; done) | (simp [xD]; omega)) 8 (L := 4) rfl (by decide) c rfl (by omega) (by decide) (v := .ref (ga g [22, 14, c])) (by show rq _ (if _ then _ else _) = _; rw [if_pos (show c < xLn 14 by show _ < 4; omega)]; rfl) dX7_closes_39 ?_
          refine lv_iload hx hb dX7_closes_40 (lv_at hl 4 rfl) ?_
          refine x_cald hx hb hK hH (id := [22, 14, c]) (by first | trivial | (simp only [xD]; omega) | (simp [xD]; done) | (simp [xD]; omega)) (L := 8) rfl (r := ((rw2 X S) 2)) (mW_r2 _ _ _) i rfl (by omega) (by decide) dX7_closes_42 ?_
          rw [show ((rw2 X S) 2 i) = (S i) from rfl]
          refine lv_bipush (v := 105) hx hb dX7_closes_43 (by decide) ?_
          refine lv_icmp_eq (tgt := 62) hx hb dX7_closes_45 (by decide) (fun c_45 => ?_) (fun c_45 => ?_)
          · skip
            refine lv_aload_n hx hb dX7_closes_62 rfl (lv_at hl 0 rfl) ?_
            refine lv_iload_n hx hb dX7_closes_63 rfl (lv_at hl 1 rfl) ?_
            refine lv_iload hx hb dX7_closes_64 (lv_at hl 4 rfl) ?_
            refine lv_bipush (v := 120) hx hb dX7_closes_66 (by decide) ?_
            refine x_V0 hx hb hml hown hE hS hl.1 cyX7_becomes tw1000 (c_X7_becomes_6_120 l g h I n c (rw2 X S) hc p hpp hpo hA hW i (by omega) (by have hp := pW_pA hW.pW h8 (show i < sSz h p by omega) (pA_of (P := vP I p) (by omega) c_31).2; have hq := (pA_of (P := vP I p) (i := i) (by omega) c_31).1; omega)) ⟨Nat.le_of_ble_eq_true rfl, Nat.le_of_ble_eq_true rfl⟩ ⟨Nat.le_of_ble_eq_true rfl, Nat.le_of_ble_eq_true rfl⟩ (x_recv hK hH (id := [20]) (by first | trivial | (simp only [xD]; omega) | (simp [xD]; done) | (simp [xD]; omega)) (ci := 7) rfl (by decide) rfl) hH rfl rfl (Nat.le_of_ble_eq_true rfl) dX7_closes_68 (fun H locs hH hS => ?_)
            rw [sEnd_rw2] at hH
            refine lv_iinc (v := (nI (i + 1))) (lv' := [(4, .int (nI (i + 1))), (0, .ref (ga g [20])), (1, .int (nI c)), (2, .int (nI j)), (3, .int (nI p))]) hx hb dX7_closes_71 hl (k := 4) rfl (by first | rfl | exact nI_1 _ | exact nI_add _ _) (by decide) rfl (fun ls hl => ?_)
            refine lv_goto (tgt := 10) hx hb dX7_closes_74 (by decide) ?_
            exact ih10 (i + 1) ((clE (vP I p) (sSz h p) i (fun q => if q = i then 120 else S q))) _ _ _ (by omega) (LI_yes hW.pW h8 hL (by omega) (by omega) c_31 (Or.inl c_45) (clE_LI _ hW.pW h8 (by omega))) (by omega) hH hS (lv_sub hl [1, 2, 3, 4, 0] rfl)
          · skip
            refine lv_aload_n hx hb dX7_closes_48 rfl (lv_at hl 0 rfl) ?_
            refine x_get (C := RX7) (T := TX7) (N := 24) (ci := 7) hx hb hts iu7 hown hK hH (id := [20]) (by first | trivial | (simp only [xD]; omega) | (simp [xD]; done) | (simp [xD]; omega)) rfl rfl (by decide) 14 (by decide) (hts _ tw853) (fun _ h9 => h9) rfl (v := .ref (ga g [21, 14])) rfl dX7_closes_49 ?_
            refine lv_iload_n hx hb dX7_closes_52 rfl (lv_at hl 1 rfl) ?_
            refine x_aald hx hb hK hH (id := [21, 14]) (by first | trivial | (simp only [xD]; omega) | (simp [xD]; done) | (simp [xD]; omega)) 8 (L := 4) rfl (by decide) c rfl (by omega) (by decide) (v := .ref (ga g [22, 14, c])) (by show rq _ (if _ then _ else _) = _; rw [if_pos (show c < xLn 14 by show _ < 4; omega)]; rfl) dX7_closes_53 ?_
            refine lv_iload hx hb dX7_closes_54 (lv_at hl 4 rfl) ?_
            refine x_cald hx hb hK hH (id := [22, 14, c]) (by first | trivial | (simp only [xD]; omega) | (simp [xD]; done) | (simp [xD]; omega)) (L := 8) rfl (r := ((rw2 X S) 2)) (mW_r2 _ _ _) i rfl (by omega) (by decide) dX7_closes_56 ?_
            rw [show ((rw2 X S) 2 i) = (S i) from rfl]
            refine lv_bipush (v := 97) hx hb dX7_closes_57 (by decide) ?_
            refine lv_icmp_ne (tgt := 71) hx hb dX7_closes_59 (by decide) (fun c_59 => ?_) (fun c_59 => ?_)
            · skip
              refine lv_iinc (v := (nI (i + 1))) (lv' := [(4, .int (nI (i + 1))), (0, .ref (ga g [20])), (1, .int (nI c)), (2, .int (nI j)), (3, .int (nI p))]) hx hb dX7_closes_71 hl (k := 4) rfl (by first | rfl | exact nI_1 _ | exact nI_add _ _) (by decide) rfl (fun ls hl => ?_)
              refine lv_goto (tgt := 10) hx hb dX7_closes_74 (by decide) ?_
              exact ih10 (i + 1) S _ _ _ (by omega) (LI_no hW.pW h8 hL (by omega) (fun z => z.2.elim c_45 c_59)) (by omega) hH hS (lv_sub hl [1, 2, 3, 4, 0] rfl)
            · skip
              refine lv_aload_n hx hb dX7_closes_62 rfl (lv_at hl 0 rfl) ?_
              refine lv_iload_n hx hb dX7_closes_63 rfl (lv_at hl 1 rfl) ?_
              refine lv_iload hx hb dX7_closes_64 (lv_at hl 4 rfl) ?_
              refine lv_bipush (v := 120) hx hb dX7_closes_66 (by decide) ?_
              refine x_V0 hx hb hml hown hE hS hl.1 cyX7_becomes tw1000 (c_X7_becomes_6_120 l g h I n c (rw2 X S) hc p hpp hpo hA hW i (by omega) (by have hp := pW_pA hW.pW h8 (show i < sSz h p by omega) (pA_of (P := vP I p) (by omega) c_31).2; have hq := (pA_of (P := vP I p) (i := i) (by omega) c_31).1; omega)) ⟨Nat.le_of_ble_eq_true rfl, Nat.le_of_ble_eq_true rfl⟩ ⟨Nat.le_of_ble_eq_true rfl, Nat.le_of_ble_eq_true rfl⟩ (x_recv hK hH (id := [20]) (by first | trivial | (simp only [xD]; omega) | (simp [xD]; done) | (simp [xD]; omega)) (ci := 7) rfl (by decide) rfl) hH rfl rfl (Nat.le_of_ble_eq_true rfl) dX7_closes_68 (fun H locs hH hS => ?_)
              rw [sEnd_rw2] at hH
              refine lv_iinc (v := (nI (i + 1))) (lv' := [(4, .int (nI (i + 1))), (0, .ref (ga g [20])), (1, .int (nI c)), (2, .int (nI j)), (3, .int (nI p))]) hx hb dX7_closes_71 hl (k := 4) rfl (by first | rfl | exact nI_1 _ | exact nI_add _ _) (by decide) rfl (fun ls hl => ?_)
              refine lv_goto (tgt := 10) hx hb dX7_closes_74 (by decide) ?_
              exact ih10 (i + 1) ((clE (vP I p) (sSz h p) i (fun q => if q = i then 120 else S q))) _ _ _ (by omega) (LI_yes hW.pW h8 hL (by omega) (by omega) c_31 (Or.inr c_59) (clE_LI _ hW.pW h8 (by omega))) (by omega) hH hS (lv_sub hl [1, 2, 3, 4, 0] rfl)
  exact L10 _ 0 ((X 2)) _ _ _ (Nat.zero_le _) (LI_0 _ _ _ _) (Nat.lt_succ_self _) hH hS (lv_sub hl [2, 3, 4, 1, 0] rfl)

set_option maxHeartbeats 1000000 in
set_option maxRecDepth 100000 in
theorem c_X7_becomes_7_120 (l : Launch) (g : xG) (h : xS) (I : xI) (n c : Nat) (X : xX) (hc : c < 4) (p : Nat) (hpp : p < 3) (hpo : I [24, 11] c = nI p) (hA : mA h I p) (hW : xWp h I p) (k : Nat) (hk : k < sSz h p) (hlv : sSz h p ≤ k + 1 + 7)  : xM l yX7_becomes (xws yX7_becomes cX7_becomes 4 none) 16 365 g [.ref (ga g [20]), .int (nI c), .int (nI k), .int 120] (xR g (xD h) (mW I c X) (xFh h) n) none (xR g (xD h) (mW I c (sEnd (vP I p) (sSz h p) X k 120)) (xFh h) n) 0 0 := by
  refine xM.of (by decide) (Nat.le_of_ble_eq_true rfl) ?_
  intro P_ e_ s m_ bl_ mt_ cd_ ls hx hb hr hown hlocks hml hnm hE hK hts hH hS hl
  have hl : lv_has ls 4 [(0, .ref (ga g [20])), (1, .int (nI c)), (2, .int (nI k)), (3, .int 120)] := hl
  have h8 := hW.1
  refine lv_aload_n hx hb dX7_becomes_0 rfl (lv_at hl 0 rfl) ?_
  refine x_get (C := RX7) (T := TX7) (N := 24) (ci := 7) hx hb hts iu7 hown hK hH (id := [20]) (by first | trivial | (simp only [xD]; omega) | (simp [xD]; done) | (simp [xD]; omega)) rfl rfl (by decide) 14 (by decide) (hts _ tw853) (fun _ h9 => h9) rfl (v := .ref (ga g [21, 14])) rfl dX7_becomes_1 ?_
  refine lv_iload_n hx hb dX7_becomes_4 rfl (lv_at hl 1 rfl) ?_
  refine x_aald hx hb hK hH (id := [21, 14]) (by first | trivial | (simp only [xD]; omega) | (simp [xD]; done) | (simp [xD]; omega)) 8 (L := 4) rfl (by decide) c rfl (by omega) (by decide) (v := .ref (ga g [22, 14, c])) (by show rq _ (if _ then _ else _) = _; rw [if_pos (show c < xLn 14 by show _ < 4; omega)]; rfl) dX7_becomes_5 ?_
  refine lv_iload_n hx hb dX7_becomes_6 rfl (lv_at hl 2 rfl) ?_
  refine lv_iload_n hx hb dX7_becomes_7 rfl (lv_at hl 3 rfl) ?_
  obtain ⟨X1_, hX1_⟩ : ∃ z, z = up2 X 2 k 120 := ⟨_, rfl⟩
  refine x_cast hx hb hK hH hS (id := [22, 14, c]) (by first | trivial | (simp only [xD]; omega) | (simp [xD]; done) | (simp [xD]; omega)) (L := 8) rfl k rfl (by omega) (by decide) (by rfl) ((mW_u2 _ _ _ _ _).trans (congrArg (mW I c) hX1_.symm)) dX7_becomes_8 (fun H locs hH hS => ?_)
  refine lv_aload_n hx hb dX7_becomes_9 rfl (lv_at hl 0 rfl) ?_
  refine x_get (C := RX7) (T := TX7) (N := 24) (ci := 7) hx hb hts iu7 hown hK hH (id := [20]) (by first | trivial | (simp only [xD]; omega) | (simp [xD]; done) | (simp [xD]; omega)) rfl rfl (by decide) 0 (by decide) (hts _ tw839) (fun _ h9 => h9) rfl (v := .ref (ga g [21, 0])) rfl dX7_becomes_10 ?_
  refine lv_aload_n hx hb dX7_becomes_13 rfl (lv_at hl 0 rfl) ?_
  refine x_get (C := RX7) (T := TX7) (N := 24) (ci := 7) hx hb hts iu7 hown hK hH (id := [20]) (by first | trivial | (simp only [xD]; omega) | (simp [xD]; done) | (simp [xD]; omega)) rfl rfl (by decide) 11 (by decide) (hts _ tw850) (fun _ h9 => h9) rfl (v := .ref (ga g [24, 11])) rfl dX7_becomes_14 ?_
  refine lv_iload_n hx hb dX7_becomes_17 rfl (lv_at hl 1 rfl) ?_
  refine x_iald hx hb hK hH (id := [24, 11]) (by first | trivial | (simp only [xD]; omega) | (simp [xD]; done) | (simp [xD]; omega)) (L := 4) rfl (r := (I [24, 11])) rfl c rfl (by omega) (by decide) dX7_becomes_18 ?_
  rw [show (I [24, 11] c) = (nI p) from hpo]
  refine x_aald hx hb hK hH (id := [21, 0]) (by first | trivial | (simp only [xD]; omega) | (simp [xD]; done) | (simp [xD]; omega)) 8 (L := 3) rfl (by decide) p rfl (by omega) (by decide) (v := .ref (ga g [22, 0, p])) (by show rq _ (if _ then _ else _) = _; rw [if_pos (show p < xLn 0 by show _ < 3; omega)]; rfl) dX7_becomes_19 ?_
  refine lv_iload_n hx hb dX7_becomes_20 rfl (lv_at hl 2 rfl) ?_
  refine x_cald hx hb hK hH (id := [22, 0, p]) (by first | trivial | (simp only [xD]; omega) | (simp [xD]; done) | (simp [xD]; omega)) (L := 8) rfl (r := (I [22, 0, p])) rfl k rfl (by omega) (by decide) dX7_becomes_21 ?_
  rw [show (I [22, 0, p] k) = (I [7, p, k] 0) from (hA.2 k (by omega)).1]
  refine lv_bipush (v := 115) hx hb dX7_becomes_22 (by decide) ?_
  refine lv_icmp_ne (tgt := 45) hx hb dX7_becomes_24 (by decide) (fun c_24 => ?_) (fun c_24 => ?_)
  · skip
    exact x_vret hx hb hr hlocks hS dX7_becomes_45 (by rw [sEnd_cl, ← clE_eq hW.pW h8 hk (LI_self (hW.leaf c_24)), ← up2_rw2, ← hX1_]; exact hH)
  · skip
    refine lv_iload_n hx hb dX7_becomes_27 rfl (lv_at hl 3 rfl) ?_
    refine lv_bipush (v := 99) hx hb dX7_becomes_28 (by decide) ?_
    refine lv_icmp_eq (tgt := 39) hx hb dX7_becomes_30 (by decide) (fun q_ => absurd q_ (by decide)) (fun _ => ?_)
    refine lv_iload_n hx hb dX7_becomes_33 rfl (lv_at hl 3 rfl) ?_
    refine lv_bipush (v := 120) hx hb dX7_becomes_34 (by decide) ?_
    refine lv_icmp_ne (tgt := 45) hx hb dX7_becomes_36 (by decide) (fun q_ => absurd (by decide) q_) (fun _ => ?_)
    refine lv_aload_n hx hb dX7_becomes_39 rfl (lv_at hl 0 rfl) ?_
    refine lv_iload_n hx hb dX7_becomes_40 rfl (lv_at hl 1 rfl) ?_
    refine lv_iload_n hx hb dX7_becomes_41 rfl (lv_at hl 2 rfl) ?_
    refine x_V0 hx hb hml hown hE hS hl.1 cyX7_closes tw1004 (c_X7_closes_7 l g h I n c X1_ hc p hpp hpo hA hW k hk hlv) ⟨Nat.le_of_ble_eq_true rfl, Nat.le_of_ble_eq_true rfl⟩ ⟨Nat.le_of_ble_eq_true rfl, Nat.le_of_ble_eq_true rfl⟩ (x_recv hK hH (id := [20]) (by first | trivial | (simp only [xD]; omega) | (simp [xD]; done) | (simp [xD]; omega)) (ci := 7) rfl (by decide) rfl) hH rfl rfl (Nat.le_of_ble_eq_true rfl) dX7_becomes_42 (fun H locs hH hS => ?_)
    exact x_vret hx hb hr hlocks hS dX7_becomes_45 (by rw [hX1_, rw2_up2, up2_row] at hH; exact hH)

set_option maxHeartbeats 1000000 in
set_option maxRecDepth 100000 in
theorem c_X7_becomes_7_99 (l : Launch) (g : xG) (h : xS) (I : xI) (n c : Nat) (X : xX) (hc : c < 4) (p : Nat) (hpp : p < 3) (hpo : I [24, 11] c = nI p) (hA : mA h I p) (hW : xWp h I p) (k : Nat) (hk : k < sSz h p) (hlv : sSz h p ≤ k + 1 + 7)  : xM l yX7_becomes (xws yX7_becomes cX7_becomes 4 none) 16 365 g [.ref (ga g [20]), .int (nI c), .int (nI k), .int 99] (xR g (xD h) (mW I c X) (xFh h) n) none (xR g (xD h) (mW I c (sEnd (vP I p) (sSz h p) X k 99)) (xFh h) n) 0 0 := by
  refine xM.of (by decide) (Nat.le_of_ble_eq_true rfl) ?_
  intro P_ e_ s m_ bl_ mt_ cd_ ls hx hb hr hown hlocks hml hnm hE hK hts hH hS hl
  have hl : lv_has ls 4 [(0, .ref (ga g [20])), (1, .int (nI c)), (2, .int (nI k)), (3, .int 99)] := hl
  have h8 := hW.1
  refine lv_aload_n hx hb dX7_becomes_0 rfl (lv_at hl 0 rfl) ?_
  refine x_get (C := RX7) (T := TX7) (N := 24) (ci := 7) hx hb hts iu7 hown hK hH (id := [20]) (by first | trivial | (simp only [xD]; omega) | (simp [xD]; done) | (simp [xD]; omega)) rfl rfl (by decide) 14 (by decide) (hts _ tw853) (fun _ h9 => h9) rfl (v := .ref (ga g [21, 14])) rfl dX7_becomes_1 ?_
  refine lv_iload_n hx hb dX7_becomes_4 rfl (lv_at hl 1 rfl) ?_
  refine x_aald hx hb hK hH (id := [21, 14]) (by first | trivial | (simp only [xD]; omega) | (simp [xD]; done) | (simp [xD]; omega)) 8 (L := 4) rfl (by decide) c rfl (by omega) (by decide) (v := .ref (ga g [22, 14, c])) (by show rq _ (if _ then _ else _) = _; rw [if_pos (show c < xLn 14 by show _ < 4; omega)]; rfl) dX7_becomes_5 ?_
  refine lv_iload_n hx hb dX7_becomes_6 rfl (lv_at hl 2 rfl) ?_
  refine lv_iload_n hx hb dX7_becomes_7 rfl (lv_at hl 3 rfl) ?_
  obtain ⟨X1_, hX1_⟩ : ∃ z, z = up2 X 2 k 99 := ⟨_, rfl⟩
  refine x_cast hx hb hK hH hS (id := [22, 14, c]) (by first | trivial | (simp only [xD]; omega) | (simp [xD]; done) | (simp [xD]; omega)) (L := 8) rfl k rfl (by omega) (by decide) (by rfl) ((mW_u2 _ _ _ _ _).trans (congrArg (mW I c) hX1_.symm)) dX7_becomes_8 (fun H locs hH hS => ?_)
  refine lv_aload_n hx hb dX7_becomes_9 rfl (lv_at hl 0 rfl) ?_
  refine x_get (C := RX7) (T := TX7) (N := 24) (ci := 7) hx hb hts iu7 hown hK hH (id := [20]) (by first | trivial | (simp only [xD]; omega) | (simp [xD]; done) | (simp [xD]; omega)) rfl rfl (by decide) 0 (by decide) (hts _ tw839) (fun _ h9 => h9) rfl (v := .ref (ga g [21, 0])) rfl dX7_becomes_10 ?_
  refine lv_aload_n hx hb dX7_becomes_13 rfl (lv_at hl 0 rfl) ?_
  refine x_get (C := RX7) (T := TX7) (N := 24) (ci := 7) hx hb hts iu7 hown hK hH (id := [20]) (by first | trivial | (simp only [xD]; omega) | (simp [xD]; done) | (simp [xD]; omega)) rfl rfl (by decide) 11 (by decide) (hts _ tw850) (fun _ h9 => h9) rfl (v := .ref (ga g [24, 11])) rfl dX7_becomes_14 ?_
  refine lv_iload_n hx hb dX7_becomes_17 rfl (lv_at hl 1 rfl) ?_
  refine x_iald hx hb hK hH (id := [24, 11]) (by first | trivial | (simp only [xD]; omega) | (simp [xD]; done) | (simp [xD]; omega)) (L := 4) rfl (r := (I [24, 11])) rfl c rfl (by omega) (by decide) dX7_becomes_18 ?_
  rw [show (I [24, 11] c) = (nI p) from hpo]
  refine x_aald hx hb hK hH (id := [21, 0]) (by first | trivial | (simp only [xD]; omega) | (simp [xD]; done) | (simp [xD]; omega)) 8 (L := 3) rfl (by decide) p rfl (by omega) (by decide) (v := .ref (ga g [22, 0, p])) (by show rq _ (if _ then _ else _) = _; rw [if_pos (show p < xLn 0 by show _ < 3; omega)]; rfl) dX7_becomes_19 ?_
  refine lv_iload_n hx hb dX7_becomes_20 rfl (lv_at hl 2 rfl) ?_
  refine x_cald hx hb hK hH (id := [22, 0, p]) (by first | trivial | (simp only [xD]; omega) | (simp [xD]; done) | (simp [xD]; omega)) (L := 8) rfl (r := (I [22, 0, p])) rfl k rfl (by omega) (by decide) dX7_becomes_21 ?_
  rw [show (I [22, 0, p] k) = (I [7, p, k] 0) from (hA.2 k (by omega)).1]
  refine lv_bipush (v := 115) hx hb dX7_becomes_22 (by decide) ?_
  refine lv_icmp_ne (tgt := 45) hx hb dX7_becomes_24 (by decide) (fun c_24 => ?_) (fun c_24 => ?_)
  · skip
    exact x_vret hx hb hr hlocks hS dX7_becomes_45 (by rw [sEnd_cl, ← clE_eq hW.pW h8 hk (LI_self (hW.leaf c_24)), ← up2_rw2, ← hX1_]; exact hH)
  · skip
    refine lv_iload_n hx hb dX7_becomes_27 rfl (lv_at hl 3 rfl) ?_
    refine lv_bipush (v := 99) hx hb dX7_becomes_28 (by decide) ?_
    refine lv_icmp_eq (tgt := 39) hx hb dX7_becomes_30 (by decide) (fun _ => ?_) (fun q_ => absurd (by decide) q_)
    refine lv_aload_n hx hb dX7_becomes_39 rfl (lv_at hl 0 rfl) ?_
    refine lv_iload_n hx hb dX7_becomes_40 rfl (lv_at hl 1 rfl) ?_
    refine lv_iload_n hx hb dX7_becomes_41 rfl (lv_at hl 2 rfl) ?_
    refine x_V0 hx hb hml hown hE hS hl.1 cyX7_closes tw1004 (c_X7_closes_7 l g h I n c X1_ hc p hpp hpo hA hW k hk hlv) ⟨Nat.le_of_ble_eq_true rfl, Nat.le_of_ble_eq_true rfl⟩ ⟨Nat.le_of_ble_eq_true rfl, Nat.le_of_ble_eq_true rfl⟩ (x_recv hK hH (id := [20]) (by first | trivial | (simp only [xD]; omega) | (simp [xD]; done) | (simp [xD]; omega)) (ci := 7) rfl (by decide) rfl) hH rfl rfl (Nat.le_of_ble_eq_true rfl) dX7_becomes_42 (fun H locs hH hS => ?_)
    exact x_vret hx hb hr hlocks hS dX7_becomes_45 (by rw [hX1_, rw2_up2, up2_row] at hH; exact hH)
