/-! CONTRACTS: the law's own methods, over what the class's answer or throw -/
set_option maxHeartbeats 1000000 in
set_option maxRecDepth 100000 in
theorem w_addPlan (l : Launch) (g : xG) (dm dm2 : List Nat → Prop) (I I2 : xI) (F F2 : xF) (n n2 fr lo mc ms : Nat) (v : Int32) (hd0 : dm [0]) (hd30 : dm2 [30]) (hM : xM l yX6_addPlan (xws yX6_addPlan cX6_addPlan 2 (some FieldType.int)) fr lo g [.ref (ga g [0])] (xR g dm I F n) (some (.int v)) (xR g dm2 I2 F2 n2) mc ms) : xMl l yL_addPlan cL_addPlan 3 (some FieldType.int) [(0, 8, 11, 13)] (fr + 1) (8 + (2 + 11) + lo) g [.ref (ga g [0]), .ref (ga g [30])] (xR g dm I F n) (some (.int 0)) (xR g dm2 (up I2 [30] 0 v) F2 n2) mc ms := by
  refine xMl.of (by decide) (Nat.le_of_ble_eq_true rfl) ?_
  intro P_ e_ s m_ bl_ mt_ cd_ ls hx hb hr hown hlocks hml htab hE hK hts hH hS hl hLs
  have hl : lv_has ls 3 [(0, .ref (ga g [0])), (1, .ref (ga g [30]))] := hl
  refine lv_aload_n hx hb dL_addPlan_0 rfl (lv_at hl 1 rfl) ?_
  refine lv_iconst (v := 0) hx hb dL_addPlan_1 (by decide) ?_
  refine lv_aload_n hx hb dL_addPlan_2 rfl (lv_at hl 0 rfl) ?_
  refine x_V1 hx hb hml hown hE hS hl.1 cyX6_addPlan tw170 hM ⟨Nat.le_refl _, Nat.le_refl _⟩ ⟨Nat.le_of_eq (Nat.zero_add _), Nat.le_of_eq (Nat.zero_add _)⟩ (x_recv hK hH (id := [0]) hd0 (ci := 6) rfl (by decide) rfl) hH rfl rfl (Nat.le_of_ble_eq_true rfl) dL_addPlan_3 (fun H locs hH hS => ?_)
  refine lv_i2l hx hb dL_addPlan_6 rfl ?_
  refine x_last hx hb hK hH hS hd30 rfl dL_addPlan_7 (fun H locs hH hS => ?_)
  refine lv_goto (tgt := 14) hx hb dL_addPlan_8 (by decide) ?_
  refine lv_iconst (v := 0) hx hb dL_addPlan_14 (by decide) ?_
  refine W.widen (k := mc) (n := ms) (by omega) (by omega) ?_
  exact x_iret hx hb hr hlocks hS dL_addPlan_15 rfl hH

set_option maxHeartbeats 1000000 in
set_option maxRecDepth 100000 in
theorem w_addPlan_eIS (l : Launch) (g : xG) (dm : List Nat → Prop) (I : xI) (F : xF) (n fr lo : Nat) (hd0 : dm [0]) (hT : xTc l yX6_addPlan (xws yX6_addPlan cX6_addPlan 2 (some FieldType.int)) fr lo g [.ref (ga g [0])] (xR g dm I F n) eIS (xG_ g dm I F n) 1 6) : xMl l yL_addPlan cL_addPlan 3 (some FieldType.int) [(0, 8, 11, 13)] (fr + 1) (8 + (2 + 11) + lo) g [.ref (ga g [0]), .ref (ga g [30])] (xR g dm I F n) (some (.int 1)) (xG_ g dm I F n) 1 6 := by
  refine xMl.of (by decide) (Nat.le_of_ble_eq_true rfl) ?_
  intro P_ e_ s m_ bl_ mt_ cd_ ls hx hb hr hown hlocks hml htab hE hK hts hH hS hl hLs
  have hl : lv_has ls 3 [(0, .ref (ga g [0])), (1, .ref (ga g [30]))] := hl
  refine lv_aload_n hx hb dL_addPlan_0 rfl (lv_at hl 1 rfl) ?_
  refine lv_iconst (v := 0) hx hb dL_addPlan_1 (by decide) ?_
  refine lv_aload_n hx hb dL_addPlan_2 rfl (lv_at hl 0 rfl) ?_
  refine x_contT (x_VT hx hb hml hown hE hS hl.1 cyX6_addPlan tw170 hT ⟨Nat.le_refl _, Nat.le_refl _⟩ ⟨Nat.le_of_eq (Nat.zero_add _), Nat.le_of_eq (Nat.zero_add _)⟩ (x_recv hK hH (id := [0]) hd0 (ci := 6) rfl (by decide) rfl) hH rfl rfl (Nat.le_of_ble_eq_true rfl) dL_addPlan_3) hS (fun ce q9 H1 locs1 hp1 hS1 hce hcv hcl => ?_)
  refine x_catch hown hE htab [] ⟨0, 8, 11, 13⟩ [] rfl (fun z hz => absurd hz List.not_mem_nil) rfl (by decide) tw169 cfIS hce hcv hcl ?_
  refine lv_astore_n (lv' := [(2, .ref q9), (0, .ref (ga g [0])), (1, .ref (ga g [30]))]) hx hb dL_addPlan_11 rfl hl (by decide) rfl (fun ls hl => ?_)
  refine lv_iconst (v := 1) hx hb dL_addPlan_12 (by decide) ?_
  refine W.widen (k := 1) (n := 6) (by omega) (by omega) ?_
  exact x_iret hx hb hr hlocks hS1 dL_addPlan_13 rfl hp1

set_option maxHeartbeats 1000000 in
set_option maxRecDepth 100000 in
theorem w_addStep (l : Launch) (g : xG) (dm dm2 : List Nat → Prop) (I I2 : xI) (F F2 : xF) (n n2 fr lo mc ms : Nat) (y0 y1 y2 : Int32) (v : Int32) (hd0 : dm [0]) (hd30 : dm2 [30]) (hM : xM l yX6_addStep (xws yX6_addStep cX6_addStep 5 (some FieldType.int)) fr lo g [.ref (ga g [0]), .int y0, .int y1, .int y2] (xR g dm I F n) (some (.int v)) (xR g dm2 I2 F2 n2) mc ms) : xMl l yL_addStep cL_addStep 6 (some FieldType.int) [(0, 12, 15, 19), (0, 12, 19, 21), (0, 12, 23, 13)] (fr + 1) (8 + (5 + 11) + lo) g [.ref (ga g [0]), .int y0, .int y1, .int y2, .ref (ga g [30])] (xR g dm I F n) (some (.int 0)) (xR g dm2 (up I2 [30] 0 v) F2 n2) mc ms := by
  refine xMl.of (by decide) (Nat.le_of_ble_eq_true rfl) ?_
  intro P_ e_ s m_ bl_ mt_ cd_ ls hx hb hr hown hlocks hml htab hE hK hts hH hS hl hLs
  have hl : lv_has ls 6 [(0, .ref (ga g [0])), (1, .int y0), (2, .int y1), (3, .int y2), (4, .ref (ga g [30]))] := hl
  refine lv_aload hx hb dL_addStep_0 (lv_at hl 4 rfl) ?_
  refine lv_iconst (v := 0) hx hb dL_addStep_2 (by decide) ?_
  refine lv_aload_n hx hb dL_addStep_3 rfl (lv_at hl 0 rfl) ?_
  refine lv_iload_n hx hb dL_addStep_4 rfl (lv_at hl 1 rfl) ?_
  refine lv_iload_n hx hb dL_addStep_5 rfl (lv_at hl 2 rfl) ?_
  refine lv_iload_n hx hb dL_addStep_6 rfl (lv_at hl 3 rfl) ?_
  refine x_V1 hx hb hml hown hE hS hl.1 cyX6_addStep tw249 hM ⟨Nat.le_refl _, Nat.le_refl _⟩ ⟨Nat.le_of_eq (Nat.zero_add _), Nat.le_of_eq (Nat.zero_add _)⟩ (x_recv hK hH (id := [0]) hd0 (ci := 6) rfl (by decide) rfl) hH rfl rfl (Nat.le_of_ble_eq_true rfl) dL_addStep_7 (fun H locs hH hS => ?_)
  refine lv_i2l hx hb dL_addStep_10 rfl ?_
  refine x_last hx hb hK hH hS hd30 rfl dL_addStep_11 (fun H locs hH hS => ?_)
  refine lv_goto (tgt := 27) hx hb dL_addStep_12 (by decide) ?_
  refine lv_iconst (v := 0) hx hb dL_addStep_27 (by decide) ?_
  refine W.widen (k := mc) (n := ms) (by omega) (by omega) ?_
  exact x_iret hx hb hr hlocks hS dL_addStep_28 rfl hH

set_option maxHeartbeats 1000000 in
set_option maxRecDepth 100000 in
theorem w_addStep_eIO (l : Launch) (g : xG) (dm : List Nat → Prop) (I : xI) (F : xF) (n fr lo : Nat) (y0 y1 y2 : Int32) (hd0 : dm [0]) (hT : xTc l yX6_addStep (xws yX6_addStep cX6_addStep 5 (some FieldType.int)) fr lo g [.ref (ga g [0]), .int y0, .int y1, .int y2] (xR g dm I F n) eIO (xG_ g dm I F n) 1 6) : xMl l yL_addStep cL_addStep 6 (some FieldType.int) [(0, 12, 15, 19), (0, 12, 19, 21), (0, 12, 23, 13)] (fr + 1) (8 + (5 + 11) + lo) g [.ref (ga g [0]), .int y0, .int y1, .int y2, .ref (ga g [30])] (xR g dm I F n) (some (.int 1)) (xG_ g dm I F n) 1 6 := by
  refine xMl.of (by decide) (Nat.le_of_ble_eq_true rfl) ?_
  intro P_ e_ s m_ bl_ mt_ cd_ ls hx hb hr hown hlocks hml htab hE hK hts hH hS hl hLs
  have hl : lv_has ls 6 [(0, .ref (ga g [0])), (1, .int y0), (2, .int y1), (3, .int y2), (4, .ref (ga g [30]))] := hl
  refine lv_aload hx hb dL_addStep_0 (lv_at hl 4 rfl) ?_
  refine lv_iconst (v := 0) hx hb dL_addStep_2 (by decide) ?_
  refine lv_aload_n hx hb dL_addStep_3 rfl (lv_at hl 0 rfl) ?_
  refine lv_iload_n hx hb dL_addStep_4 rfl (lv_at hl 1 rfl) ?_
  refine lv_iload_n hx hb dL_addStep_5 rfl (lv_at hl 2 rfl) ?_
  refine lv_iload_n hx hb dL_addStep_6 rfl (lv_at hl 3 rfl) ?_
  refine x_contT (x_VT hx hb hml hown hE hS hl.1 cyX6_addStep tw249 hT ⟨Nat.le_refl _, Nat.le_refl _⟩ ⟨Nat.le_of_eq (Nat.zero_add _), Nat.le_of_eq (Nat.zero_add _)⟩ (x_recv hK hH (id := [0]) hd0 (ci := 6) rfl (by decide) rfl) hH rfl rfl (Nat.le_of_ble_eq_true rfl) dL_addStep_7) hS (fun ce q9 H1 locs1 hp1 hS1 hce hcv hcl => ?_)
  refine x_catch hown hE htab [] ⟨0, 12, 15, 19⟩ [⟨0, 12, 19, 21⟩, ⟨0, 12, 23, 13⟩] rfl (fun z hz => absurd hz List.not_mem_nil) rfl (by decide) tw247 cfIO hce hcv hcl ?_
  refine lv_astore (lv' := [(5, .ref q9), (0, .ref (ga g [0])), (1, .int y0), (2, .int y1), (3, .int y2), (4, .ref (ga g [30]))]) hx hb dL_addStep_15 hl (by decide) rfl (fun ls hl => ?_)
  refine lv_iconst (v := 1) hx hb dL_addStep_17 (by decide) ?_
  refine W.widen (k := 1) (n := 6) (by omega) (by omega) ?_
  exact x_iret hx hb hr hlocks hS1 dL_addStep_18 rfl hp1

set_option maxHeartbeats 1000000 in
set_option maxRecDepth 100000 in
theorem w_addStep_eIA (l : Launch) (g : xG) (dm : List Nat → Prop) (I : xI) (F : xF) (n fr lo : Nat) (y0 y1 y2 : Int32) (hd0 : dm [0]) (hT : xTc l yX6_addStep (xws yX6_addStep cX6_addStep 5 (some FieldType.int)) fr lo g [.ref (ga g [0]), .int y0, .int y1, .int y2] (xR g dm I F n) eIA (xG_ g dm I F n) 1 6) : xMl l yL_addStep cL_addStep 6 (some FieldType.int) [(0, 12, 15, 19), (0, 12, 19, 21), (0, 12, 23, 13)] (fr + 1) (8 + (5 + 11) + lo) g [.ref (ga g [0]), .int y0, .int y1, .int y2, .ref (ga g [30])] (xR g dm I F n) (some (.int 2)) (xG_ g dm I F n) 1 6 := by
  refine xMl.of (by decide) (Nat.le_of_ble_eq_true rfl) ?_
  intro P_ e_ s m_ bl_ mt_ cd_ ls hx hb hr hown hlocks hml htab hE hK hts hH hS hl hLs
  have hl : lv_has ls 6 [(0, .ref (ga g [0])), (1, .int y0), (2, .int y1), (3, .int y2), (4, .ref (ga g [30]))] := hl
  refine lv_aload hx hb dL_addStep_0 (lv_at hl 4 rfl) ?_
  refine lv_iconst (v := 0) hx hb dL_addStep_2 (by decide) ?_
  refine lv_aload_n hx hb dL_addStep_3 rfl (lv_at hl 0 rfl) ?_
  refine lv_iload_n hx hb dL_addStep_4 rfl (lv_at hl 1 rfl) ?_
  refine lv_iload_n hx hb dL_addStep_5 rfl (lv_at hl 2 rfl) ?_
  refine lv_iload_n hx hb dL_addStep_6 rfl (lv_at hl 3 rfl) ?_
  refine x_contT (x_VT hx hb hml hown hE hS hl.1 cyX6_addStep tw249 hT ⟨Nat.le_refl _, Nat.le_refl _⟩ ⟨Nat.le_of_eq (Nat.zero_add _), Nat.le_of_eq (Nat.zero_add _)⟩ (x_recv hK hH (id := [0]) hd0 (ci := 6) rfl (by decide) rfl) hH rfl rfl (Nat.le_of_ble_eq_true rfl) dL_addStep_7) hS (fun ce q9 H1 locs1 hp1 hS1 hce hcv hcl => ?_)
  refine x_catch hown hE htab [⟨0, 12, 15, 19⟩] ⟨0, 12, 19, 21⟩ [⟨0, 12, 23, 13⟩] rfl (fun z hz => by simp only [List.mem_cons, List.not_mem_nil, or_false] at hz; rcases hz with rfl; exact ⟨by decide, _, tw247, hLs _ (List.mem_of_getElem? (i := 4) rfl)⟩) rfl (by decide) tw248 cfIA hce hcv hcl ?_
  refine lv_astore (lv' := [(5, .ref q9), (0, .ref (ga g [0])), (1, .int y0), (2, .int y1), (3, .int y2), (4, .ref (ga g [30]))]) hx hb dL_addStep_19 hl (by decide) rfl (fun ls hl => ?_)
  refine lv_iconst (v := 2) hx hb dL_addStep_21 (by decide) ?_
  refine W.widen (k := 1) (n := 6) (by omega) (by omega) ?_
  exact x_iret hx hb hr hlocks hS1 dL_addStep_22 rfl hp1

set_option maxHeartbeats 1000000 in
set_option maxRecDepth 100000 in
theorem w_addStep_eIS (l : Launch) (g : xG) (dm : List Nat → Prop) (I : xI) (F : xF) (n fr lo : Nat) (y0 y1 y2 : Int32) (hd0 : dm [0]) (hT : xTc l yX6_addStep (xws yX6_addStep cX6_addStep 5 (some FieldType.int)) fr lo g [.ref (ga g [0]), .int y0, .int y1, .int y2] (xR g dm I F n) eIS (xG_ g dm I F n) 1 6) : xMl l yL_addStep cL_addStep 6 (some FieldType.int) [(0, 12, 15, 19), (0, 12, 19, 21), (0, 12, 23, 13)] (fr + 1) (8 + (5 + 11) + lo) g [.ref (ga g [0]), .int y0, .int y1, .int y2, .ref (ga g [30])] (xR g dm I F n) (some (.int 3)) (xG_ g dm I F n) 1 6 := by
  refine xMl.of (by decide) (Nat.le_of_ble_eq_true rfl) ?_
  intro P_ e_ s m_ bl_ mt_ cd_ ls hx hb hr hown hlocks hml htab hE hK hts hH hS hl hLs
  have hl : lv_has ls 6 [(0, .ref (ga g [0])), (1, .int y0), (2, .int y1), (3, .int y2), (4, .ref (ga g [30]))] := hl
  refine lv_aload hx hb dL_addStep_0 (lv_at hl 4 rfl) ?_
  refine lv_iconst (v := 0) hx hb dL_addStep_2 (by decide) ?_
  refine lv_aload_n hx hb dL_addStep_3 rfl (lv_at hl 0 rfl) ?_
  refine lv_iload_n hx hb dL_addStep_4 rfl (lv_at hl 1 rfl) ?_
  refine lv_iload_n hx hb dL_addStep_5 rfl (lv_at hl 2 rfl) ?_
  refine lv_iload_n hx hb dL_addStep_6 rfl (lv_at hl 3 rfl) ?_
  refine x_contT (x_VT hx hb hml hown hE hS hl.1 cyX6_addStep tw249 hT ⟨Nat.le_refl _, Nat.le_refl _⟩ ⟨Nat.le_of_eq (Nat.zero_add _), Nat.le_of_eq (Nat.zero_add _)⟩ (x_recv hK hH (id := [0]) hd0 (ci := 6) rfl (by decide) rfl) hH rfl rfl (Nat.le_of_ble_eq_true rfl) dL_addStep_7) hS (fun ce q9 H1 locs1 hp1 hS1 hce hcv hcl => ?_)
  refine x_catch hown hE htab [⟨0, 12, 15, 19⟩, ⟨0, 12, 19, 21⟩] ⟨0, 12, 23, 13⟩ [] rfl (fun z hz => by simp only [List.mem_cons, List.not_mem_nil, or_false] at hz; rcases hz with rfl | rfl <;> first | exact ⟨by decide, _, tw247, hLs _ (List.mem_of_getElem? (i := 3) rfl)⟩ | exact ⟨by decide, _, tw248, hLs _ (List.mem_of_getElem? (i := 7) rfl)⟩) rfl (by decide) tw169 cfIS hce hcv hcl ?_
  refine lv_astore (lv' := [(5, .ref q9), (0, .ref (ga g [0])), (1, .int y0), (2, .int y1), (3, .int y2), (4, .ref (ga g [30]))]) hx hb dL_addStep_23 hl (by decide) rfl (fun ls hl => ?_)
  refine lv_iconst (v := 3) hx hb dL_addStep_25 (by decide) ?_
  refine W.widen (k := 1) (n := 6) (by omega) (by omega) ?_
  exact x_iret hx hb hr hlocks hS1 dL_addStep_26 rfl hp1

set_option maxHeartbeats 1000000 in
set_option maxRecDepth 100000 in
theorem w_addEntry (l : Launch) (g : xG) (dm dm2 : List Nat → Prop) (I I2 : xI) (F F2 : xF) (n n2 fr lo mc ms : Nat) (y0 y1 y2 y3 y4 : Int32) (v : Int32) (hd0 : dm [0]) (hd30 : dm2 [30]) (hM : xM l yX6_addEntry (xws yX6_addEntry cX6_addEntry 8 (some FieldType.int)) fr lo g [.ref (ga g [0]), .int y0, .int y1, .int y2, .int y3, .int y4] (xR g dm I F n) (some (.int v)) (xR g dm2 I2 F2 n2) mc ms) : xMl l yL_addEntry cL_addEntry 8 (some FieldType.int) [(0, 16, 19, 19), (0, 16, 23, 21), (0, 16, 27, 13)] (fr + 1) (8 + (8 + 11) + lo) g [.ref (ga g [0]), .int y0, .int y1, .int y2, .int y3, .int y4, .ref (ga g [30])] (xR g dm I F n) (some (.int 0)) (xR g dm2 (up I2 [30] 0 v) F2 n2) mc ms := by
  refine xMl.of (by decide) (Nat.le_of_ble_eq_true rfl) ?_
  intro P_ e_ s m_ bl_ mt_ cd_ ls hx hb hr hown hlocks hml htab hE hK hts hH hS hl hLs
  have hl : lv_has ls 8 [(0, .ref (ga g [0])), (1, .int y0), (2, .int y1), (3, .int y2), (4, .int y3), (5, .int y4), (6, .ref (ga g [30]))] := hl
  refine lv_aload hx hb dL_addEntry_0 (lv_at hl 6 rfl) ?_
  refine lv_iconst (v := 0) hx hb dL_addEntry_2 (by decide) ?_
  refine lv_aload_n hx hb dL_addEntry_3 rfl (lv_at hl 0 rfl) ?_
  refine lv_iload_n hx hb dL_addEntry_4 rfl (lv_at hl 1 rfl) ?_
  refine lv_iload_n hx hb dL_addEntry_5 rfl (lv_at hl 2 rfl) ?_
  refine lv_iload_n hx hb dL_addEntry_6 rfl (lv_at hl 3 rfl) ?_
  refine lv_iload hx hb dL_addEntry_7 (lv_at hl 4 rfl) ?_
  refine lv_iload hx hb dL_addEntry_9 (lv_at hl 5 rfl) ?_
  refine x_V1 hx hb hml hown hE hS hl.1 cyX6_addEntry tw373 hM ⟨Nat.le_refl _, Nat.le_refl _⟩ ⟨Nat.le_of_eq (Nat.zero_add _), Nat.le_of_eq (Nat.zero_add _)⟩ (x_recv hK hH (id := [0]) hd0 (ci := 6) rfl (by decide) rfl) hH rfl rfl (Nat.le_of_ble_eq_true rfl) dL_addEntry_11 (fun H locs hH hS => ?_)
  refine lv_i2l hx hb dL_addEntry_14 rfl ?_
  refine x_last hx hb hK hH hS hd30 rfl dL_addEntry_15 (fun H locs hH hS => ?_)
  refine lv_goto (tgt := 31) hx hb dL_addEntry_16 (by decide) ?_
  refine lv_iconst (v := 0) hx hb dL_addEntry_31 (by decide) ?_
  refine W.widen (k := mc) (n := ms) (by omega) (by omega) ?_
  exact x_iret hx hb hr hlocks hS dL_addEntry_32 rfl hH

set_option maxHeartbeats 1000000 in
set_option maxRecDepth 100000 in
theorem w_addEntry_eIO (l : Launch) (g : xG) (dm : List Nat → Prop) (I : xI) (F : xF) (n fr lo : Nat) (y0 y1 y2 y3 y4 : Int32) (hd0 : dm [0]) (hT : xTc l yX6_addEntry (xws yX6_addEntry cX6_addEntry 8 (some FieldType.int)) fr lo g [.ref (ga g [0]), .int y0, .int y1, .int y2, .int y3, .int y4] (xR g dm I F n) eIO (xG_ g dm I F n) 1 6) : xMl l yL_addEntry cL_addEntry 8 (some FieldType.int) [(0, 16, 19, 19), (0, 16, 23, 21), (0, 16, 27, 13)] (fr + 1) (8 + (8 + 11) + lo) g [.ref (ga g [0]), .int y0, .int y1, .int y2, .int y3, .int y4, .ref (ga g [30])] (xR g dm I F n) (some (.int 1)) (xG_ g dm I F n) 1 6 := by
  refine xMl.of (by decide) (Nat.le_of_ble_eq_true rfl) ?_
  intro P_ e_ s m_ bl_ mt_ cd_ ls hx hb hr hown hlocks hml htab hE hK hts hH hS hl hLs
  have hl : lv_has ls 8 [(0, .ref (ga g [0])), (1, .int y0), (2, .int y1), (3, .int y2), (4, .int y3), (5, .int y4), (6, .ref (ga g [30]))] := hl
  refine lv_aload hx hb dL_addEntry_0 (lv_at hl 6 rfl) ?_
  refine lv_iconst (v := 0) hx hb dL_addEntry_2 (by decide) ?_
  refine lv_aload_n hx hb dL_addEntry_3 rfl (lv_at hl 0 rfl) ?_
  refine lv_iload_n hx hb dL_addEntry_4 rfl (lv_at hl 1 rfl) ?_
  refine lv_iload_n hx hb dL_addEntry_5 rfl (lv_at hl 2 rfl) ?_
  refine lv_iload_n hx hb dL_addEntry_6 rfl (lv_at hl 3 rfl) ?_
  refine lv_iload hx hb dL_addEntry_7 (lv_at hl 4 rfl) ?_
  refine lv_iload hx hb dL_addEntry_9 (lv_at hl 5 rfl) ?_
  refine x_contT (x_VT hx hb hml hown hE hS hl.1 cyX6_addEntry tw373 hT ⟨Nat.le_refl _, Nat.le_refl _⟩ ⟨Nat.le_of_eq (Nat.zero_add _), Nat.le_of_eq (Nat.zero_add _)⟩ (x_recv hK hH (id := [0]) hd0 (ci := 6) rfl (by decide) rfl) hH rfl rfl (Nat.le_of_ble_eq_true rfl) dL_addEntry_11) hS (fun ce q9 H1 locs1 hp1 hS1 hce hcv hcl => ?_)
  refine x_catch hown hE htab [] ⟨0, 16, 19, 19⟩ [⟨0, 16, 23, 21⟩, ⟨0, 16, 27, 13⟩] rfl (fun z hz => absurd hz List.not_mem_nil) rfl (by decide) tw247 cfIO hce hcv hcl ?_
  refine lv_astore (lv' := [(7, .ref q9), (0, .ref (ga g [0])), (1, .int y0), (2, .int y1), (3, .int y2), (4, .int y3), (5, .int y4), (6, .ref (ga g [30]))]) hx hb dL_addEntry_19 hl (by decide) rfl (fun ls hl => ?_)
  refine lv_iconst (v := 1) hx hb dL_addEntry_21 (by decide) ?_
  refine W.widen (k := 1) (n := 6) (by omega) (by omega) ?_
  exact x_iret hx hb hr hlocks hS1 dL_addEntry_22 rfl hp1

set_option maxHeartbeats 1000000 in
set_option maxRecDepth 100000 in
theorem w_addEntry_eIA (l : Launch) (g : xG) (dm : List Nat → Prop) (I : xI) (F : xF) (n fr lo : Nat) (y0 y1 y2 y3 y4 : Int32) (hd0 : dm [0]) (hT : xTc l yX6_addEntry (xws yX6_addEntry cX6_addEntry 8 (some FieldType.int)) fr lo g [.ref (ga g [0]), .int y0, .int y1, .int y2, .int y3, .int y4] (xR g dm I F n) eIA (xG_ g dm I F n) 1 6) : xMl l yL_addEntry cL_addEntry 8 (some FieldType.int) [(0, 16, 19, 19), (0, 16, 23, 21), (0, 16, 27, 13)] (fr + 1) (8 + (8 + 11) + lo) g [.ref (ga g [0]), .int y0, .int y1, .int y2, .int y3, .int y4, .ref (ga g [30])] (xR g dm I F n) (some (.int 2)) (xG_ g dm I F n) 1 6 := by
  refine xMl.of (by decide) (Nat.le_of_ble_eq_true rfl) ?_
  intro P_ e_ s m_ bl_ mt_ cd_ ls hx hb hr hown hlocks hml htab hE hK hts hH hS hl hLs
  have hl : lv_has ls 8 [(0, .ref (ga g [0])), (1, .int y0), (2, .int y1), (3, .int y2), (4, .int y3), (5, .int y4), (6, .ref (ga g [30]))] := hl
  refine lv_aload hx hb dL_addEntry_0 (lv_at hl 6 rfl) ?_
  refine lv_iconst (v := 0) hx hb dL_addEntry_2 (by decide) ?_
  refine lv_aload_n hx hb dL_addEntry_3 rfl (lv_at hl 0 rfl) ?_
  refine lv_iload_n hx hb dL_addEntry_4 rfl (lv_at hl 1 rfl) ?_
  refine lv_iload_n hx hb dL_addEntry_5 rfl (lv_at hl 2 rfl) ?_
  refine lv_iload_n hx hb dL_addEntry_6 rfl (lv_at hl 3 rfl) ?_
  refine lv_iload hx hb dL_addEntry_7 (lv_at hl 4 rfl) ?_
  refine lv_iload hx hb dL_addEntry_9 (lv_at hl 5 rfl) ?_
  refine x_contT (x_VT hx hb hml hown hE hS hl.1 cyX6_addEntry tw373 hT ⟨Nat.le_refl _, Nat.le_refl _⟩ ⟨Nat.le_of_eq (Nat.zero_add _), Nat.le_of_eq (Nat.zero_add _)⟩ (x_recv hK hH (id := [0]) hd0 (ci := 6) rfl (by decide) rfl) hH rfl rfl (Nat.le_of_ble_eq_true rfl) dL_addEntry_11) hS (fun ce q9 H1 locs1 hp1 hS1 hce hcv hcl => ?_)
  refine x_catch hown hE htab [⟨0, 16, 19, 19⟩] ⟨0, 16, 23, 21⟩ [⟨0, 16, 27, 13⟩] rfl (fun z hz => by simp only [List.mem_cons, List.not_mem_nil, or_false] at hz; rcases hz with rfl; exact ⟨by decide, _, tw247, hLs _ (List.mem_of_getElem? (i := 4) rfl)⟩) rfl (by decide) tw248 cfIA hce hcv hcl ?_
  refine lv_astore (lv' := [(7, .ref q9), (0, .ref (ga g [0])), (1, .int y0), (2, .int y1), (3, .int y2), (4, .int y3), (5, .int y4), (6, .ref (ga g [30]))]) hx hb dL_addEntry_23 hl (by decide) rfl (fun ls hl => ?_)
  refine lv_iconst (v := 2) hx hb dL_addEntry_25 (by decide) ?_
  refine W.widen (k := 1) (n := 6) (by omega) (by omega) ?_
  exact x_iret hx hb hr hlocks hS1 dL_addEntry_26 rfl hp1

set_option maxHeartbeats 1000000 in
set_option maxRecDepth 100000 in
theorem w_addEntry_eIS (l : Launch) (g : xG) (dm : List Nat → Prop) (I : xI) (F : xF) (n fr lo : Nat) (y0 y1 y2 y3 y4 : Int32) (hd0 : dm [0]) (hT : xTc l yX6_addEntry (xws yX6_addEntry cX6_addEntry 8 (some FieldType.int)) fr lo g [.ref (ga g [0]), .int y0, .int y1, .int y2, .int y3, .int y4] (xR g dm I F n) eIS (xG_ g dm I F n) 1 6) : xMl l yL_addEntry cL_addEntry 8 (some FieldType.int) [(0, 16, 19, 19), (0, 16, 23, 21), (0, 16, 27, 13)] (fr + 1) (8 + (8 + 11) + lo) g [.ref (ga g [0]), .int y0, .int y1, .int y2, .int y3, .int y4, .ref (ga g [30])] (xR g dm I F n) (some (.int 3)) (xG_ g dm I F n) 1 6 := by
  refine xMl.of (by decide) (Nat.le_of_ble_eq_true rfl) ?_
  intro P_ e_ s m_ bl_ mt_ cd_ ls hx hb hr hown hlocks hml htab hE hK hts hH hS hl hLs
  have hl : lv_has ls 8 [(0, .ref (ga g [0])), (1, .int y0), (2, .int y1), (3, .int y2), (4, .int y3), (5, .int y4), (6, .ref (ga g [30]))] := hl
  refine lv_aload hx hb dL_addEntry_0 (lv_at hl 6 rfl) ?_
  refine lv_iconst (v := 0) hx hb dL_addEntry_2 (by decide) ?_
  refine lv_aload_n hx hb dL_addEntry_3 rfl (lv_at hl 0 rfl) ?_
  refine lv_iload_n hx hb dL_addEntry_4 rfl (lv_at hl 1 rfl) ?_
  refine lv_iload_n hx hb dL_addEntry_5 rfl (lv_at hl 2 rfl) ?_
  refine lv_iload_n hx hb dL_addEntry_6 rfl (lv_at hl 3 rfl) ?_
  refine lv_iload hx hb dL_addEntry_7 (lv_at hl 4 rfl) ?_
  refine lv_iload hx hb dL_addEntry_9 (lv_at hl 5 rfl) ?_
  refine x_contT (x_VT hx hb hml hown hE hS hl.1 cyX6_addEntry tw373 hT ⟨Nat.le_refl _, Nat.le_refl _⟩ ⟨Nat.le_of_eq (Nat.zero_add _), Nat.le_of_eq (Nat.zero_add _)⟩ (x_recv hK hH (id := [0]) hd0 (ci := 6) rfl (by decide) rfl) hH rfl rfl (Nat.le_of_ble_eq_true rfl) dL_addEntry_11) hS (fun ce q9 H1 locs1 hp1 hS1 hce hcv hcl => ?_)
  refine x_catch hown hE htab [⟨0, 16, 19, 19⟩, ⟨0, 16, 23, 21⟩] ⟨0, 16, 27, 13⟩ [] rfl (fun z hz => by simp only [List.mem_cons, List.not_mem_nil, or_false] at hz; rcases hz with rfl | rfl <;> first | exact ⟨by decide, _, tw247, hLs _ (List.mem_of_getElem? (i := 3) rfl)⟩ | exact ⟨by decide, _, tw248, hLs _ (List.mem_of_getElem? (i := 7) rfl)⟩) rfl (by decide) tw169 cfIS hce hcv hcl ?_
  refine lv_astore (lv' := [(7, .ref q9), (0, .ref (ga g [0])), (1, .int y0), (2, .int y1), (3, .int y2), (4, .int y3), (5, .int y4), (6, .ref (ga g [30]))]) hx hb dL_addEntry_27 hl (by decide) rfl (fun ls hl => ?_)
  refine lv_iconst (v := 3) hx hb dL_addEntry_29 (by decide) ?_
  refine W.widen (k := 1) (n := 6) (by omega) (by omega) ?_
  exact x_iret hx hb hr hlocks hS1 dL_addEntry_30 rfl hp1

set_option maxHeartbeats 1000000 in
set_option maxRecDepth 100000 in
theorem w_addExit (l : Launch) (g : xG) (dm dm2 : List Nat → Prop) (I I2 : xI) (F F2 : xF) (n n2 fr lo mc ms : Nat) (y0 y1 y2 y3 y4 : Int32) (v : Int32) (hd0 : dm [0]) (hd30 : dm2 [30]) (hM : xM l yX6_addExit (xws yX6_addExit cX6_addExit 8 (some FieldType.int)) fr lo g [.ref (ga g [0]), .int y0, .int y1, .int y2, .int y3, .int y4] (xR g dm I F n) (some (.int v)) (xR g dm2 I2 F2 n2) mc ms) : xMl l yL_addExit cL_addExit 8 (some FieldType.int) [(0, 16, 19, 19), (0, 16, 23, 21), (0, 16, 27, 30), (0, 16, 31, 13)] (fr + 1) (8 + (8 + 11) + lo) g [.ref (ga g [0]), .int y0, .int y1, .int y2, .int y3, .int y4, .ref (ga g [30])] (xR g dm I F n) (some (.int 0)) (xR g dm2 (up I2 [30] 0 v) F2 n2) mc ms := by
  refine xMl.of (by decide) (Nat.le_of_ble_eq_true rfl) ?_
  intro P_ e_ s m_ bl_ mt_ cd_ ls hx hb hr hown hlocks hml htab hE hK hts hH hS hl hLs
  have hl : lv_has ls 8 [(0, .ref (ga g [0])), (1, .int y0), (2, .int y1), (3, .int y2), (4, .int y3), (5, .int y4), (6, .ref (ga g [30]))] := hl
  refine lv_aload hx hb dL_addExit_0 (lv_at hl 6 rfl) ?_
  refine lv_iconst (v := 0) hx hb dL_addExit_2 (by decide) ?_
  refine lv_aload_n hx hb dL_addExit_3 rfl (lv_at hl 0 rfl) ?_
  refine lv_iload_n hx hb dL_addExit_4 rfl (lv_at hl 1 rfl) ?_
  refine lv_iload_n hx hb dL_addExit_5 rfl (lv_at hl 2 rfl) ?_
  refine lv_iload_n hx hb dL_addExit_6 rfl (lv_at hl 3 rfl) ?_
  refine lv_iload hx hb dL_addExit_7 (lv_at hl 4 rfl) ?_
  refine lv_iload hx hb dL_addExit_9 (lv_at hl 5 rfl) ?_
  refine x_V1 hx hb hml hown hE hS hl.1 cyX6_addExit tw429 hM ⟨Nat.le_refl _, Nat.le_refl _⟩ ⟨Nat.le_of_eq (Nat.zero_add _), Nat.le_of_eq (Nat.zero_add _)⟩ (x_recv hK hH (id := [0]) hd0 (ci := 6) rfl (by decide) rfl) hH rfl rfl (Nat.le_of_ble_eq_true rfl) dL_addExit_11 (fun H locs hH hS => ?_)
  refine lv_i2l hx hb dL_addExit_14 rfl ?_
  refine x_last hx hb hK hH hS hd30 rfl dL_addExit_15 (fun H locs hH hS => ?_)
  refine lv_goto (tgt := 35) hx hb dL_addExit_16 (by decide) ?_
  refine lv_iconst (v := 0) hx hb dL_addExit_35 (by decide) ?_
  refine W.widen (k := mc) (n := ms) (by omega) (by omega) ?_
  exact x_iret hx hb hr hlocks hS dL_addExit_36 rfl hH

set_option maxHeartbeats 1000000 in
set_option maxRecDepth 100000 in
theorem w_addExit_eIO (l : Launch) (g : xG) (dm : List Nat → Prop) (I : xI) (F : xF) (n fr lo : Nat) (y0 y1 y2 y3 y4 : Int32) (hd0 : dm [0]) (hT : xTc l yX6_addExit (xws yX6_addExit cX6_addExit 8 (some FieldType.int)) fr lo g [.ref (ga g [0]), .int y0, .int y1, .int y2, .int y3, .int y4] (xR g dm I F n) eIO (xG_ g dm I F n) 1 6) : xMl l yL_addExit cL_addExit 8 (some FieldType.int) [(0, 16, 19, 19), (0, 16, 23, 21), (0, 16, 27, 30), (0, 16, 31, 13)] (fr + 1) (8 + (8 + 11) + lo) g [.ref (ga g [0]), .int y0, .int y1, .int y2, .int y3, .int y4, .ref (ga g [30])] (xR g dm I F n) (some (.int 1)) (xG_ g dm I F n) 1 6 := by
  refine xMl.of (by decide) (Nat.le_of_ble_eq_true rfl) ?_
  intro P_ e_ s m_ bl_ mt_ cd_ ls hx hb hr hown hlocks hml htab hE hK hts hH hS hl hLs
  have hl : lv_has ls 8 [(0, .ref (ga g [0])), (1, .int y0), (2, .int y1), (3, .int y2), (4, .int y3), (5, .int y4), (6, .ref (ga g [30]))] := hl
  refine lv_aload hx hb dL_addExit_0 (lv_at hl 6 rfl) ?_
  refine lv_iconst (v := 0) hx hb dL_addExit_2 (by decide) ?_
  refine lv_aload_n hx hb dL_addExit_3 rfl (lv_at hl 0 rfl) ?_
  refine lv_iload_n hx hb dL_addExit_4 rfl (lv_at hl 1 rfl) ?_
  refine lv_iload_n hx hb dL_addExit_5 rfl (lv_at hl 2 rfl) ?_
  refine lv_iload_n hx hb dL_addExit_6 rfl (lv_at hl 3 rfl) ?_
  refine lv_iload hx hb dL_addExit_7 (lv_at hl 4 rfl) ?_
  refine lv_iload hx hb dL_addExit_9 (lv_at hl 5 rfl) ?_
  refine x_contT (x_VT hx hb hml hown hE hS hl.1 cyX6_addExit tw429 hT ⟨Nat.le_refl _, Nat.le_refl _⟩ ⟨Nat.le_of_eq (Nat.zero_add _), Nat.le_of_eq (Nat.zero_add _)⟩ (x_recv hK hH (id := [0]) hd0 (ci := 6) rfl (by decide) rfl) hH rfl rfl (Nat.le_of_ble_eq_true rfl) dL_addExit_11) hS (fun ce q9 H1 locs1 hp1 hS1 hce hcv hcl => ?_)
  refine x_catch hown hE htab [] ⟨0, 16, 19, 19⟩ [⟨0, 16, 23, 21⟩, ⟨0, 16, 27, 30⟩, ⟨0, 16, 31, 13⟩] rfl (fun z hz => absurd hz List.not_mem_nil) rfl (by decide) tw247 cfIO hce hcv hcl ?_
  refine lv_astore (lv' := [(7, .ref q9), (0, .ref (ga g [0])), (1, .int y0), (2, .int y1), (3, .int y2), (4, .int y3), (5, .int y4), (6, .ref (ga g [30]))]) hx hb dL_addExit_19 hl (by decide) rfl (fun ls hl => ?_)
  refine lv_iconst (v := 1) hx hb dL_addExit_21 (by decide) ?_
  refine W.widen (k := 1) (n := 6) (by omega) (by omega) ?_
  exact x_iret hx hb hr hlocks hS1 dL_addExit_22 rfl hp1

set_option maxHeartbeats 1000000 in
set_option maxRecDepth 100000 in
theorem w_addExit_eIA (l : Launch) (g : xG) (dm : List Nat → Prop) (I : xI) (F : xF) (n fr lo : Nat) (y0 y1 y2 y3 y4 : Int32) (hd0 : dm [0]) (hT : xTc l yX6_addExit (xws yX6_addExit cX6_addExit 8 (some FieldType.int)) fr lo g [.ref (ga g [0]), .int y0, .int y1, .int y2, .int y3, .int y4] (xR g dm I F n) eIA (xG_ g dm I F n) 1 6) : xMl l yL_addExit cL_addExit 8 (some FieldType.int) [(0, 16, 19, 19), (0, 16, 23, 21), (0, 16, 27, 30), (0, 16, 31, 13)] (fr + 1) (8 + (8 + 11) + lo) g [.ref (ga g [0]), .int y0, .int y1, .int y2, .int y3, .int y4, .ref (ga g [30])] (xR g dm I F n) (some (.int 2)) (xG_ g dm I F n) 1 6 := by
  refine xMl.of (by decide) (Nat.le_of_ble_eq_true rfl) ?_
  intro P_ e_ s m_ bl_ mt_ cd_ ls hx hb hr hown hlocks hml htab hE hK hts hH hS hl hLs
  have hl : lv_has ls 8 [(0, .ref (ga g [0])), (1, .int y0), (2, .int y1), (3, .int y2), (4, .int y3), (5, .int y4), (6, .ref (ga g [30]))] := hl
  refine lv_aload hx hb dL_addExit_0 (lv_at hl 6 rfl) ?_
  refine lv_iconst (v := 0) hx hb dL_addExit_2 (by decide) ?_
  refine lv_aload_n hx hb dL_addExit_3 rfl (lv_at hl 0 rfl) ?_
  refine lv_iload_n hx hb dL_addExit_4 rfl (lv_at hl 1 rfl) ?_
  refine lv_iload_n hx hb dL_addExit_5 rfl (lv_at hl 2 rfl) ?_
  refine lv_iload_n hx hb dL_addExit_6 rfl (lv_at hl 3 rfl) ?_
  refine lv_iload hx hb dL_addExit_7 (lv_at hl 4 rfl) ?_
  refine lv_iload hx hb dL_addExit_9 (lv_at hl 5 rfl) ?_
  refine x_contT (x_VT hx hb hml hown hE hS hl.1 cyX6_addExit tw429 hT ⟨Nat.le_refl _, Nat.le_refl _⟩ ⟨Nat.le_of_eq (Nat.zero_add _), Nat.le_of_eq (Nat.zero_add _)⟩ (x_recv hK hH (id := [0]) hd0 (ci := 6) rfl (by decide) rfl) hH rfl rfl (Nat.le_of_ble_eq_true rfl) dL_addExit_11) hS (fun ce q9 H1 locs1 hp1 hS1 hce hcv hcl => ?_)
  refine x_catch hown hE htab [⟨0, 16, 19, 19⟩] ⟨0, 16, 23, 21⟩ [⟨0, 16, 27, 30⟩, ⟨0, 16, 31, 13⟩] rfl (fun z hz => by simp only [List.mem_cons, List.not_mem_nil, or_false] at hz; rcases hz with rfl; exact ⟨by decide, _, tw247, hLs _ (List.mem_of_getElem? (i := 4) rfl)⟩) rfl (by decide) tw248 cfIA hce hcv hcl ?_
  refine lv_astore (lv' := [(7, .ref q9), (0, .ref (ga g [0])), (1, .int y0), (2, .int y1), (3, .int y2), (4, .int y3), (5, .int y4), (6, .ref (ga g [30]))]) hx hb dL_addExit_23 hl (by decide) rfl (fun ls hl => ?_)
  refine lv_iconst (v := 2) hx hb dL_addExit_25 (by decide) ?_
  refine W.widen (k := 1) (n := 6) (by omega) (by omega) ?_
  exact x_iret hx hb hr hlocks hS1 dL_addExit_26 rfl hp1

set_option maxHeartbeats 1000000 in
set_option maxRecDepth 100000 in
theorem w_addExit_eUO (l : Launch) (g : xG) (dm : List Nat → Prop) (I : xI) (F : xF) (n fr lo : Nat) (y0 y1 y2 y3 y4 : Int32) (hd0 : dm [0]) (hT : xTc l yX6_addExit (xws yX6_addExit cX6_addExit 8 (some FieldType.int)) fr lo g [.ref (ga g [0]), .int y0, .int y1, .int y2, .int y3, .int y4] (xR g dm I F n) eUO (xG_ g dm I F n) 1 6) : xMl l yL_addExit cL_addExit 8 (some FieldType.int) [(0, 16, 19, 19), (0, 16, 23, 21), (0, 16, 27, 30), (0, 16, 31, 13)] (fr + 1) (8 + (8 + 11) + lo) g [.ref (ga g [0]), .int y0, .int y1, .int y2, .int y3, .int y4, .ref (ga g [30])] (xR g dm I F n) (some (.int 3)) (xG_ g dm I F n) 1 6 := by
  refine xMl.of (by decide) (Nat.le_of_ble_eq_true rfl) ?_
  intro P_ e_ s m_ bl_ mt_ cd_ ls hx hb hr hown hlocks hml htab hE hK hts hH hS hl hLs
  have hl : lv_has ls 8 [(0, .ref (ga g [0])), (1, .int y0), (2, .int y1), (3, .int y2), (4, .int y3), (5, .int y4), (6, .ref (ga g [30]))] := hl
  refine lv_aload hx hb dL_addExit_0 (lv_at hl 6 rfl) ?_
  refine lv_iconst (v := 0) hx hb dL_addExit_2 (by decide) ?_
  refine lv_aload_n hx hb dL_addExit_3 rfl (lv_at hl 0 rfl) ?_
  refine lv_iload_n hx hb dL_addExit_4 rfl (lv_at hl 1 rfl) ?_
  refine lv_iload_n hx hb dL_addExit_5 rfl (lv_at hl 2 rfl) ?_
  refine lv_iload_n hx hb dL_addExit_6 rfl (lv_at hl 3 rfl) ?_
  refine lv_iload hx hb dL_addExit_7 (lv_at hl 4 rfl) ?_
  refine lv_iload hx hb dL_addExit_9 (lv_at hl 5 rfl) ?_
  refine x_contT (x_VT hx hb hml hown hE hS hl.1 cyX6_addExit tw429 hT ⟨Nat.le_refl _, Nat.le_refl _⟩ ⟨Nat.le_of_eq (Nat.zero_add _), Nat.le_of_eq (Nat.zero_add _)⟩ (x_recv hK hH (id := [0]) hd0 (ci := 6) rfl (by decide) rfl) hH rfl rfl (Nat.le_of_ble_eq_true rfl) dL_addExit_11) hS (fun ce q9 H1 locs1 hp1 hS1 hce hcv hcl => ?_)
  refine x_catch hown hE htab [⟨0, 16, 19, 19⟩, ⟨0, 16, 23, 21⟩] ⟨0, 16, 27, 30⟩ [⟨0, 16, 31, 13⟩] rfl (fun z hz => by simp only [List.mem_cons, List.not_mem_nil, or_false] at hz; rcases hz with rfl | rfl <;> first | exact ⟨by decide, _, tw247, hLs _ (List.mem_of_getElem? (i := 5) rfl)⟩ | exact ⟨by decide, _, tw248, hLs _ (List.mem_of_getElem? (i := 8) rfl)⟩) rfl (by decide) tw428 cfUO hce hcv hcl ?_
  refine lv_astore (lv' := [(7, .ref q9), (0, .ref (ga g [0])), (1, .int y0), (2, .int y1), (3, .int y2), (4, .int y3), (5, .int y4), (6, .ref (ga g [30]))]) hx hb dL_addExit_27 hl (by decide) rfl (fun ls hl => ?_)
  refine lv_iconst (v := 3) hx hb dL_addExit_29 (by decide) ?_
  refine W.widen (k := 1) (n := 6) (by omega) (by omega) ?_
  exact x_iret hx hb hr hlocks hS1 dL_addExit_30 rfl hp1

set_option maxHeartbeats 1000000 in
set_option maxRecDepth 100000 in
theorem w_addExit_eIS (l : Launch) (g : xG) (dm : List Nat → Prop) (I : xI) (F : xF) (n fr lo : Nat) (y0 y1 y2 y3 y4 : Int32) (hd0 : dm [0]) (hT : xTc l yX6_addExit (xws yX6_addExit cX6_addExit 8 (some FieldType.int)) fr lo g [.ref (ga g [0]), .int y0, .int y1, .int y2, .int y3, .int y4] (xR g dm I F n) eIS (xG_ g dm I F n) 1 6) : xMl l yL_addExit cL_addExit 8 (some FieldType.int) [(0, 16, 19, 19), (0, 16, 23, 21), (0, 16, 27, 30), (0, 16, 31, 13)] (fr + 1) (8 + (8 + 11) + lo) g [.ref (ga g [0]), .int y0, .int y1, .int y2, .int y3, .int y4, .ref (ga g [30])] (xR g dm I F n) (some (.int 4)) (xG_ g dm I F n) 1 6 := by
  refine xMl.of (by decide) (Nat.le_of_ble_eq_true rfl) ?_
  intro P_ e_ s m_ bl_ mt_ cd_ ls hx hb hr hown hlocks hml htab hE hK hts hH hS hl hLs
  have hl : lv_has ls 8 [(0, .ref (ga g [0])), (1, .int y0), (2, .int y1), (3, .int y2), (4, .int y3), (5, .int y4), (6, .ref (ga g [30]))] := hl
  refine lv_aload hx hb dL_addExit_0 (lv_at hl 6 rfl) ?_
  refine lv_iconst (v := 0) hx hb dL_addExit_2 (by decide) ?_
  refine lv_aload_n hx hb dL_addExit_3 rfl (lv_at hl 0 rfl) ?_
  refine lv_iload_n hx hb dL_addExit_4 rfl (lv_at hl 1 rfl) ?_
  refine lv_iload_n hx hb dL_addExit_5 rfl (lv_at hl 2 rfl) ?_
  refine lv_iload_n hx hb dL_addExit_6 rfl (lv_at hl 3 rfl) ?_
  refine lv_iload hx hb dL_addExit_7 (lv_at hl 4 rfl) ?_
  refine lv_iload hx hb dL_addExit_9 (lv_at hl 5 rfl) ?_
  refine x_contT (x_VT hx hb hml hown hE hS hl.1 cyX6_addExit tw429 hT ⟨Nat.le_refl _, Nat.le_refl _⟩ ⟨Nat.le_of_eq (Nat.zero_add _), Nat.le_of_eq (Nat.zero_add _)⟩ (x_recv hK hH (id := [0]) hd0 (ci := 6) rfl (by decide) rfl) hH rfl rfl (Nat.le_of_ble_eq_true rfl) dL_addExit_11) hS (fun ce q9 H1 locs1 hp1 hS1 hce hcv hcl => ?_)
  refine x_catch hown hE htab [⟨0, 16, 19, 19⟩, ⟨0, 16, 23, 21⟩, ⟨0, 16, 27, 30⟩] ⟨0, 16, 31, 13⟩ [] rfl (fun z hz => by simp only [List.mem_cons, List.not_mem_nil, or_false] at hz; rcases hz with rfl | rfl | rfl <;> first | exact ⟨by decide, _, tw247, hLs _ (List.mem_of_getElem? (i := 3) rfl)⟩ | exact ⟨by decide, _, tw248, hLs _ (List.mem_of_getElem? (i := 7) rfl)⟩ | exact ⟨by decide, _, tw428, hLs _ (List.mem_of_getElem? (i := 9) rfl)⟩) rfl (by decide) tw169 cfIS hce hcv hcl ?_
  refine lv_astore (lv' := [(7, .ref q9), (0, .ref (ga g [0])), (1, .int y0), (2, .int y1), (3, .int y2), (4, .int y3), (5, .int y4), (6, .ref (ga g [30]))]) hx hb dL_addExit_31 hl (by decide) rfl (fun ls hl => ?_)
  refine lv_iconst (v := 4) hx hb dL_addExit_33 (by decide) ?_
  refine W.widen (k := 1) (n := 6) (by omega) (by omega) ?_
  exact x_iret hx hb hr hlocks hS1 dL_addExit_34 rfl hp1

set_option maxHeartbeats 1000000 in
set_option maxRecDepth 100000 in
theorem w_setRequired (l : Launch) (g : xG) (dm dm2 : List Nat → Prop) (I I2 : xI) (F F2 : xF) (n n2 fr lo mc ms : Nat) (y0 y1 y2 : Int32) (v : Int32) (hv : sBo v) (hd0 : dm [0]) (hd30 : dm2 [30]) (hM : xM l yX6_setRequired (xws yX6_setRequired cX6_setRequired 7 (some FieldType.boolean)) fr lo g [.ref (ga g [0]), .int y0, .int y1, .int y2] (xR g dm I F n) (some (.int v)) (xR g dm2 I2 F2 n2) mc ms) : xMl l yL_setRequired cL_setRequired 6 (some FieldType.int) [(0, 19, 22, 19), (0, 19, 26, 30), (0, 19, 30, 13)] (fr + 1) (8 + (7 + 11) + lo) g [.ref (ga g [0]), .int y0, .int y1, .int y2, .ref (ga g [30])] (xR g dm I F n) (some (.int 0)) (xR g dm2 (up I2 [30] 0 v) F2 n2) mc ms := by
  refine xMl.of (by decide) (Nat.le_of_ble_eq_true rfl) ?_
  intro P_ e_ s m_ bl_ mt_ cd_ ls hx hb hr hown hlocks hml htab hE hK hts hH hS hl hLs
  have hl : lv_has ls 6 [(0, .ref (ga g [0])), (1, .int y0), (2, .int y1), (3, .int y2), (4, .ref (ga g [30]))] := hl
  refine lv_aload hx hb dL_setRequired_0 (lv_at hl 4 rfl) ?_
  refine lv_iconst (v := 0) hx hb dL_setRequired_2 (by decide) ?_
  refine lv_aload_n hx hb dL_setRequired_3 rfl (lv_at hl 0 rfl) ?_
  refine lv_iload_n hx hb dL_setRequired_4 rfl (lv_at hl 1 rfl) ?_
  refine lv_iload_n hx hb dL_setRequired_5 rfl (lv_at hl 2 rfl) ?_
  refine lv_iload_n hx hb dL_setRequired_6 rfl (lv_at hl 3 rfl) ?_
  refine x_V1 hx hb hml hown hE hS hl.1 cyX6_setRequired tw452 hM ⟨Nat.le_refl _, Nat.le_refl _⟩ ⟨Nat.le_of_eq (Nat.zero_add _), Nat.le_of_eq (Nat.zero_add _)⟩ (x_recv hK hH (id := [0]) hd0 (ci := 6) rfl (by decide) rfl) hH rfl rfl (Nat.le_of_ble_eq_true rfl) dL_setRequired_7 (fun H locs hH hS => ?_)
  rcases hv with hv | hv
  · skip
    refine lv_if_eq (tgt := 17) hx hb dL_setRequired_10 (by decide) (fun _ => ?_) (fun q_ => absurd hv q_)
    refine lv_lconst (v := 0) hx hb dL_setRequired_17 (by decide) ?_
    refine x_last hx hb hK hH hS hd30 (show (0 : Int64) = v.toInt64 by rw [hv]; rfl) dL_setRequired_18 (fun H locs hH hS => ?_)
    refine lv_goto (tgt := 34) hx hb dL_setRequired_19 (by decide) ?_
    refine lv_iconst (v := 0) hx hb dL_setRequired_34 (by decide) ?_
    refine W.widen (k := mc) (n := ms) (by omega) (by omega) ?_
    exact x_iret hx hb hr hlocks hS dL_setRequired_35 rfl hH
  · skip
    refine lv_if_eq (tgt := 17) hx hb dL_setRequired_10 (by decide) (fun q_ => absurd q_ (by rw [hv]; decide)) (fun _ => ?_)
    refine lv_lconst (v := 1) hx hb dL_setRequired_13 (by decide) ?_
    refine lv_goto (tgt := 18) hx hb dL_setRequired_14 (by decide) ?_
    refine x_last hx hb hK hH hS hd30 (show (1 : Int64) = v.toInt64 by rw [hv]; rfl) dL_setRequired_18 (fun H locs hH hS => ?_)
    refine lv_goto (tgt := 34) hx hb dL_setRequired_19 (by decide) ?_
    refine lv_iconst (v := 0) hx hb dL_setRequired_34 (by decide) ?_
    refine W.widen (k := mc) (n := ms) (by omega) (by omega) ?_
    exact x_iret hx hb hr hlocks hS dL_setRequired_35 rfl hH

set_option maxHeartbeats 1000000 in
set_option maxRecDepth 100000 in
theorem w_setRequired_eIO (l : Launch) (g : xG) (dm : List Nat → Prop) (I : xI) (F : xF) (n fr lo : Nat) (y0 y1 y2 : Int32) (hd0 : dm [0]) (hT : xTc l yX6_setRequired (xws yX6_setRequired cX6_setRequired 7 (some FieldType.boolean)) fr lo g [.ref (ga g [0]), .int y0, .int y1, .int y2] (xR g dm I F n) eIO (xG_ g dm I F n) 1 6) : xMl l yL_setRequired cL_setRequired 6 (some FieldType.int) [(0, 19, 22, 19), (0, 19, 26, 30), (0, 19, 30, 13)] (fr + 1) (8 + (7 + 11) + lo) g [.ref (ga g [0]), .int y0, .int y1, .int y2, .ref (ga g [30])] (xR g dm I F n) (some (.int 1)) (xG_ g dm I F n) 1 6 := by
  refine xMl.of (by decide) (Nat.le_of_ble_eq_true rfl) ?_
  intro P_ e_ s m_ bl_ mt_ cd_ ls hx hb hr hown hlocks hml htab hE hK hts hH hS hl hLs
  have hl : lv_has ls 6 [(0, .ref (ga g [0])), (1, .int y0), (2, .int y1), (3, .int y2), (4, .ref (ga g [30]))] := hl
  refine lv_aload hx hb dL_setRequired_0 (lv_at hl 4 rfl) ?_
  refine lv_iconst (v := 0) hx hb dL_setRequired_2 (by decide) ?_
  refine lv_aload_n hx hb dL_setRequired_3 rfl (lv_at hl 0 rfl) ?_
  refine lv_iload_n hx hb dL_setRequired_4 rfl (lv_at hl 1 rfl) ?_
  refine lv_iload_n hx hb dL_setRequired_5 rfl (lv_at hl 2 rfl) ?_
  refine lv_iload_n hx hb dL_setRequired_6 rfl (lv_at hl 3 rfl) ?_
  refine x_contT (x_VT hx hb hml hown hE hS hl.1 cyX6_setRequired tw452 hT ⟨Nat.le_refl _, Nat.le_refl _⟩ ⟨Nat.le_of_eq (Nat.zero_add _), Nat.le_of_eq (Nat.zero_add _)⟩ (x_recv hK hH (id := [0]) hd0 (ci := 6) rfl (by decide) rfl) hH rfl rfl (Nat.le_of_ble_eq_true rfl) dL_setRequired_7) hS (fun ce q9 H1 locs1 hp1 hS1 hce hcv hcl => ?_)
  refine x_catch hown hE htab [] ⟨0, 19, 22, 19⟩ [⟨0, 19, 26, 30⟩, ⟨0, 19, 30, 13⟩] rfl (fun z hz => absurd hz List.not_mem_nil) rfl (by decide) tw247 cfIO hce hcv hcl ?_
  refine lv_astore (lv' := [(5, .ref q9), (0, .ref (ga g [0])), (1, .int y0), (2, .int y1), (3, .int y2), (4, .ref (ga g [30]))]) hx hb dL_setRequired_22 hl (by decide) rfl (fun ls hl => ?_)
  refine lv_iconst (v := 1) hx hb dL_setRequired_24 (by decide) ?_
  refine W.widen (k := 1) (n := 6) (by omega) (by omega) ?_
  exact x_iret hx hb hr hlocks hS1 dL_setRequired_25 rfl hp1

set_option maxHeartbeats 1000000 in
set_option maxRecDepth 100000 in
theorem w_setRequired_eUO (l : Launch) (g : xG) (dm : List Nat → Prop) (I : xI) (F : xF) (n fr lo : Nat) (y0 y1 y2 : Int32) (hd0 : dm [0]) (hT : xTc l yX6_setRequired (xws yX6_setRequired cX6_setRequired 7 (some FieldType.boolean)) fr lo g [.ref (ga g [0]), .int y0, .int y1, .int y2] (xR g dm I F n) eUO (xG_ g dm I F n) 1 6) : xMl l yL_setRequired cL_setRequired 6 (some FieldType.int) [(0, 19, 22, 19), (0, 19, 26, 30), (0, 19, 30, 13)] (fr + 1) (8 + (7 + 11) + lo) g [.ref (ga g [0]), .int y0, .int y1, .int y2, .ref (ga g [30])] (xR g dm I F n) (some (.int 2)) (xG_ g dm I F n) 1 6 := by
  refine xMl.of (by decide) (Nat.le_of_ble_eq_true rfl) ?_
  intro P_ e_ s m_ bl_ mt_ cd_ ls hx hb hr hown hlocks hml htab hE hK hts hH hS hl hLs
  have hl : lv_has ls 6 [(0, .ref (ga g [0])), (1, .int y0), (2, .int y1), (3, .int y2), (4, .ref (ga g [30]))] := hl
  refine lv_aload hx hb dL_setRequired_0 (lv_at hl 4 rfl) ?_
  refine lv_iconst (v := 0) hx hb dL_setRequired_2 (by decide) ?_
  refine lv_aload_n hx hb dL_setRequired_3 rfl (lv_at hl 0 rfl) ?_
  refine lv_iload_n hx hb dL_setRequired_4 rfl (lv_at hl 1 rfl) ?_
  refine lv_iload_n hx hb dL_setRequired_5 rfl (lv_at hl 2 rfl) ?_
  refine lv_iload_n hx hb dL_setRequired_6 rfl (lv_at hl 3 rfl) ?_
  refine x_contT (x_VT hx hb hml hown hE hS hl.1 cyX6_setRequired tw452 hT ⟨Nat.le_refl _, Nat.le_refl _⟩ ⟨Nat.le_of_eq (Nat.zero_add _), Nat.le_of_eq (Nat.zero_add _)⟩ (x_recv hK hH (id := [0]) hd0 (ci := 6) rfl (by decide) rfl) hH rfl rfl (Nat.le_of_ble_eq_true rfl) dL_setRequired_7) hS (fun ce q9 H1 locs1 hp1 hS1 hce hcv hcl => ?_)
  refine x_catch hown hE htab [⟨0, 19, 22, 19⟩] ⟨0, 19, 26, 30⟩ [⟨0, 19, 30, 13⟩] rfl (fun z hz => by simp only [List.mem_cons, List.not_mem_nil, or_false] at hz; rcases hz with rfl; exact ⟨by decide, _, tw247, hLs _ (List.mem_of_getElem? (i := 5) rfl)⟩) rfl (by decide) tw428 cfUO hce hcv hcl ?_
  refine lv_astore (lv' := [(5, .ref q9), (0, .ref (ga g [0])), (1, .int y0), (2, .int y1), (3, .int y2), (4, .ref (ga g [30]))]) hx hb dL_setRequired_26 hl (by decide) rfl (fun ls hl => ?_)
  refine lv_iconst (v := 2) hx hb dL_setRequired_28 (by decide) ?_
  refine W.widen (k := 1) (n := 6) (by omega) (by omega) ?_
  exact x_iret hx hb hr hlocks hS1 dL_setRequired_29 rfl hp1

set_option maxHeartbeats 1000000 in
set_option maxRecDepth 100000 in
theorem w_setRequired_eIS (l : Launch) (g : xG) (dm : List Nat → Prop) (I : xI) (F : xF) (n fr lo : Nat) (y0 y1 y2 : Int32) (hd0 : dm [0]) (hT : xTc l yX6_setRequired (xws yX6_setRequired cX6_setRequired 7 (some FieldType.boolean)) fr lo g [.ref (ga g [0]), .int y0, .int y1, .int y2] (xR g dm I F n) eIS (xG_ g dm I F n) 1 6) : xMl l yL_setRequired cL_setRequired 6 (some FieldType.int) [(0, 19, 22, 19), (0, 19, 26, 30), (0, 19, 30, 13)] (fr + 1) (8 + (7 + 11) + lo) g [.ref (ga g [0]), .int y0, .int y1, .int y2, .ref (ga g [30])] (xR g dm I F n) (some (.int 3)) (xG_ g dm I F n) 1 6 := by
  refine xMl.of (by decide) (Nat.le_of_ble_eq_true rfl) ?_
  intro P_ e_ s m_ bl_ mt_ cd_ ls hx hb hr hown hlocks hml htab hE hK hts hH hS hl hLs
  have hl : lv_has ls 6 [(0, .ref (ga g [0])), (1, .int y0), (2, .int y1), (3, .int y2), (4, .ref (ga g [30]))] := hl
  refine lv_aload hx hb dL_setRequired_0 (lv_at hl 4 rfl) ?_
  refine lv_iconst (v := 0) hx hb dL_setRequired_2 (by decide) ?_
  refine lv_aload_n hx hb dL_setRequired_3 rfl (lv_at hl 0 rfl) ?_
  refine lv_iload_n hx hb dL_setRequired_4 rfl (lv_at hl 1 rfl) ?_
  refine lv_iload_n hx hb dL_setRequired_5 rfl (lv_at hl 2 rfl) ?_
  refine lv_iload_n hx hb dL_setRequired_6 rfl (lv_at hl 3 rfl) ?_
  refine x_contT (x_VT hx hb hml hown hE hS hl.1 cyX6_setRequired tw452 hT ⟨Nat.le_refl _, Nat.le_refl _⟩ ⟨Nat.le_of_eq (Nat.zero_add _), Nat.le_of_eq (Nat.zero_add _)⟩ (x_recv hK hH (id := [0]) hd0 (ci := 6) rfl (by decide) rfl) hH rfl rfl (Nat.le_of_ble_eq_true rfl) dL_setRequired_7) hS (fun ce q9 H1 locs1 hp1 hS1 hce hcv hcl => ?_)
  refine x_catch hown hE htab [⟨0, 19, 22, 19⟩, ⟨0, 19, 26, 30⟩] ⟨0, 19, 30, 13⟩ [] rfl (fun z hz => by simp only [List.mem_cons, List.not_mem_nil, or_false] at hz; rcases hz with rfl | rfl <;> first | exact ⟨by decide, _, tw247, hLs _ (List.mem_of_getElem? (i := 3) rfl)⟩ | exact ⟨by decide, _, tw428, hLs _ (List.mem_of_getElem? (i := 9) rfl)⟩) rfl (by decide) tw169 cfIS hce hcv hcl ?_
  refine lv_astore (lv' := [(5, .ref q9), (0, .ref (ga g [0])), (1, .int y0), (2, .int y1), (3, .int y2), (4, .ref (ga g [30]))]) hx hb dL_setRequired_30 hl (by decide) rfl (fun ls hl => ?_)
  refine lv_iconst (v := 3) hx hb dL_setRequired_32 (by decide) ?_
  refine W.widen (k := 1) (n := 6) (by omega) (by omega) ?_
  exact x_iret hx hb hr hlocks hS1 dL_setRequired_33 rfl hp1

set_option maxHeartbeats 1000000 in
set_option maxRecDepth 100000 in
theorem w_setLimit (l : Launch) (g : xG) (dm dm2 : List Nat → Prop) (I I2 : xI) (F F2 : xF) (n n2 fr lo mc ms : Nat) (y0 y1 y2 : Int32) (v : Int32) (hd0 : dm [0]) (hd30 : dm2 [30]) (hM : xM l yX6_setLimit (xws yX6_setLimit cX6_setLimit 7 (some FieldType.int)) fr lo g [.ref (ga g [0]), .int y0, .int y1, .int y2] (xR g dm I F n) (some (.int v)) (xR g dm2 I2 F2 n2) mc ms) : xMl l yL_setLimit cL_setLimit 6 (some FieldType.int) [(0, 12, 15, 19), (0, 12, 19, 21), (0, 12, 23, 30), (0, 12, 27, 13)] (fr + 1) (8 + (7 + 11) + lo) g [.ref (ga g [0]), .int y0, .int y1, .int y2, .ref (ga g [30])] (xR g dm I F n) (some (.int 0)) (xR g dm2 (up I2 [30] 0 v) F2 n2) mc ms := by
  refine xMl.of (by decide) (Nat.le_of_ble_eq_true rfl) ?_
  intro P_ e_ s m_ bl_ mt_ cd_ ls hx hb hr hown hlocks hml htab hE hK hts hH hS hl hLs
  have hl : lv_has ls 6 [(0, .ref (ga g [0])), (1, .int y0), (2, .int y1), (3, .int y2), (4, .ref (ga g [30]))] := hl
  refine lv_aload hx hb dL_setLimit_0 (lv_at hl 4 rfl) ?_
  refine lv_iconst (v := 0) hx hb dL_setLimit_2 (by decide) ?_
  refine lv_aload_n hx hb dL_setLimit_3 rfl (lv_at hl 0 rfl) ?_
  refine lv_iload_n hx hb dL_setLimit_4 rfl (lv_at hl 1 rfl) ?_
  refine lv_iload_n hx hb dL_setLimit_5 rfl (lv_at hl 2 rfl) ?_
  refine lv_iload_n hx hb dL_setLimit_6 rfl (lv_at hl 3 rfl) ?_
  refine x_V1 hx hb hml hown hE hS hl.1 cyX6_setLimit tw463 hM ⟨Nat.le_refl _, Nat.le_refl _⟩ ⟨Nat.le_of_eq (Nat.zero_add _), Nat.le_of_eq (Nat.zero_add _)⟩ (x_recv hK hH (id := [0]) hd0 (ci := 6) rfl (by decide) rfl) hH rfl rfl (Nat.le_of_ble_eq_true rfl) dL_setLimit_7 (fun H locs hH hS => ?_)
  refine lv_i2l hx hb dL_setLimit_10 rfl ?_
  refine x_last hx hb hK hH hS hd30 rfl dL_setLimit_11 (fun H locs hH hS => ?_)
  refine lv_goto (tgt := 31) hx hb dL_setLimit_12 (by decide) ?_
  refine lv_iconst (v := 0) hx hb dL_setLimit_31 (by decide) ?_
  refine W.widen (k := mc) (n := ms) (by omega) (by omega) ?_
  exact x_iret hx hb hr hlocks hS dL_setLimit_32 rfl hH

set_option maxHeartbeats 1000000 in
set_option maxRecDepth 100000 in
theorem w_setLimit_eIO (l : Launch) (g : xG) (dm : List Nat → Prop) (I : xI) (F : xF) (n fr lo : Nat) (y0 y1 y2 : Int32) (hd0 : dm [0]) (hT : xTc l yX6_setLimit (xws yX6_setLimit cX6_setLimit 7 (some FieldType.int)) fr lo g [.ref (ga g [0]), .int y0, .int y1, .int y2] (xR g dm I F n) eIO (xG_ g dm I F n) 1 6) : xMl l yL_setLimit cL_setLimit 6 (some FieldType.int) [(0, 12, 15, 19), (0, 12, 19, 21), (0, 12, 23, 30), (0, 12, 27, 13)] (fr + 1) (8 + (7 + 11) + lo) g [.ref (ga g [0]), .int y0, .int y1, .int y2, .ref (ga g [30])] (xR g dm I F n) (some (.int 1)) (xG_ g dm I F n) 1 6 := by
  refine xMl.of (by decide) (Nat.le_of_ble_eq_true rfl) ?_
  intro P_ e_ s m_ bl_ mt_ cd_ ls hx hb hr hown hlocks hml htab hE hK hts hH hS hl hLs
  have hl : lv_has ls 6 [(0, .ref (ga g [0])), (1, .int y0), (2, .int y1), (3, .int y2), (4, .ref (ga g [30]))] := hl
  refine lv_aload hx hb dL_setLimit_0 (lv_at hl 4 rfl) ?_
  refine lv_iconst (v := 0) hx hb dL_setLimit_2 (by decide) ?_
  refine lv_aload_n hx hb dL_setLimit_3 rfl (lv_at hl 0 rfl) ?_
  refine lv_iload_n hx hb dL_setLimit_4 rfl (lv_at hl 1 rfl) ?_
  refine lv_iload_n hx hb dL_setLimit_5 rfl (lv_at hl 2 rfl) ?_
  refine lv_iload_n hx hb dL_setLimit_6 rfl (lv_at hl 3 rfl) ?_
  refine x_contT (x_VT hx hb hml hown hE hS hl.1 cyX6_setLimit tw463 hT ⟨Nat.le_refl _, Nat.le_refl _⟩ ⟨Nat.le_of_eq (Nat.zero_add _), Nat.le_of_eq (Nat.zero_add _)⟩ (x_recv hK hH (id := [0]) hd0 (ci := 6) rfl (by decide) rfl) hH rfl rfl (Nat.le_of_ble_eq_true rfl) dL_setLimit_7) hS (fun ce q9 H1 locs1 hp1 hS1 hce hcv hcl => ?_)
  refine x_catch hown hE htab [] ⟨0, 12, 15, 19⟩ [⟨0, 12, 19, 21⟩, ⟨0, 12, 23, 30⟩, ⟨0, 12, 27, 13⟩] rfl (fun z hz => absurd hz List.not_mem_nil) rfl (by decide) tw247 cfIO hce hcv hcl ?_
  refine lv_astore (lv' := [(5, .ref q9), (0, .ref (ga g [0])), (1, .int y0), (2, .int y1), (3, .int y2), (4, .ref (ga g [30]))]) hx hb dL_setLimit_15 hl (by decide) rfl (fun ls hl => ?_)
  refine lv_iconst (v := 1) hx hb dL_setLimit_17 (by decide) ?_
  refine W.widen (k := 1) (n := 6) (by omega) (by omega) ?_
  exact x_iret hx hb hr hlocks hS1 dL_setLimit_18 rfl hp1

set_option maxHeartbeats 1000000 in
set_option maxRecDepth 100000 in
theorem w_setLimit_eIA (l : Launch) (g : xG) (dm : List Nat → Prop) (I : xI) (F : xF) (n fr lo : Nat) (y0 y1 y2 : Int32) (hd0 : dm [0]) (hT : xTc l yX6_setLimit (xws yX6_setLimit cX6_setLimit 7 (some FieldType.int)) fr lo g [.ref (ga g [0]), .int y0, .int y1, .int y2] (xR g dm I F n) eIA (xG_ g dm I F n) 1 6) : xMl l yL_setLimit cL_setLimit 6 (some FieldType.int) [(0, 12, 15, 19), (0, 12, 19, 21), (0, 12, 23, 30), (0, 12, 27, 13)] (fr + 1) (8 + (7 + 11) + lo) g [.ref (ga g [0]), .int y0, .int y1, .int y2, .ref (ga g [30])] (xR g dm I F n) (some (.int 2)) (xG_ g dm I F n) 1 6 := by
  refine xMl.of (by decide) (Nat.le_of_ble_eq_true rfl) ?_
  intro P_ e_ s m_ bl_ mt_ cd_ ls hx hb hr hown hlocks hml htab hE hK hts hH hS hl hLs
  have hl : lv_has ls 6 [(0, .ref (ga g [0])), (1, .int y0), (2, .int y1), (3, .int y2), (4, .ref (ga g [30]))] := hl
  refine lv_aload hx hb dL_setLimit_0 (lv_at hl 4 rfl) ?_
  refine lv_iconst (v := 0) hx hb dL_setLimit_2 (by decide) ?_
  refine lv_aload_n hx hb dL_setLimit_3 rfl (lv_at hl 0 rfl) ?_
  refine lv_iload_n hx hb dL_setLimit_4 rfl (lv_at hl 1 rfl) ?_
  refine lv_iload_n hx hb dL_setLimit_5 rfl (lv_at hl 2 rfl) ?_
  refine lv_iload_n hx hb dL_setLimit_6 rfl (lv_at hl 3 rfl) ?_
  refine x_contT (x_VT hx hb hml hown hE hS hl.1 cyX6_setLimit tw463 hT ⟨Nat.le_refl _, Nat.le_refl _⟩ ⟨Nat.le_of_eq (Nat.zero_add _), Nat.le_of_eq (Nat.zero_add _)⟩ (x_recv hK hH (id := [0]) hd0 (ci := 6) rfl (by decide) rfl) hH rfl rfl (Nat.le_of_ble_eq_true rfl) dL_setLimit_7) hS (fun ce q9 H1 locs1 hp1 hS1 hce hcv hcl => ?_)
  refine x_catch hown hE htab [⟨0, 12, 15, 19⟩] ⟨0, 12, 19, 21⟩ [⟨0, 12, 23, 30⟩, ⟨0, 12, 27, 13⟩] rfl (fun z hz => by simp only [List.mem_cons, List.not_mem_nil, or_false] at hz; rcases hz with rfl; exact ⟨by decide, _, tw247, hLs _ (List.mem_of_getElem? (i := 4) rfl)⟩) rfl (by decide) tw248 cfIA hce hcv hcl ?_
  refine lv_astore (lv' := [(5, .ref q9), (0, .ref (ga g [0])), (1, .int y0), (2, .int y1), (3, .int y2), (4, .ref (ga g [30]))]) hx hb dL_setLimit_19 hl (by decide) rfl (fun ls hl => ?_)
  refine lv_iconst (v := 2) hx hb dL_setLimit_21 (by decide) ?_
  refine W.widen (k := 1) (n := 6) (by omega) (by omega) ?_
  exact x_iret hx hb hr hlocks hS1 dL_setLimit_22 rfl hp1

set_option maxHeartbeats 1000000 in
set_option maxRecDepth 100000 in
theorem w_setLimit_eUO (l : Launch) (g : xG) (dm : List Nat → Prop) (I : xI) (F : xF) (n fr lo : Nat) (y0 y1 y2 : Int32) (hd0 : dm [0]) (hT : xTc l yX6_setLimit (xws yX6_setLimit cX6_setLimit 7 (some FieldType.int)) fr lo g [.ref (ga g [0]), .int y0, .int y1, .int y2] (xR g dm I F n) eUO (xG_ g dm I F n) 1 6) : xMl l yL_setLimit cL_setLimit 6 (some FieldType.int) [(0, 12, 15, 19), (0, 12, 19, 21), (0, 12, 23, 30), (0, 12, 27, 13)] (fr + 1) (8 + (7 + 11) + lo) g [.ref (ga g [0]), .int y0, .int y1, .int y2, .ref (ga g [30])] (xR g dm I F n) (some (.int 3)) (xG_ g dm I F n) 1 6 := by
  refine xMl.of (by decide) (Nat.le_of_ble_eq_true rfl) ?_
  intro P_ e_ s m_ bl_ mt_ cd_ ls hx hb hr hown hlocks hml htab hE hK hts hH hS hl hLs
  have hl : lv_has ls 6 [(0, .ref (ga g [0])), (1, .int y0), (2, .int y1), (3, .int y2), (4, .ref (ga g [30]))] := hl
  refine lv_aload hx hb dL_setLimit_0 (lv_at hl 4 rfl) ?_
  refine lv_iconst (v := 0) hx hb dL_setLimit_2 (by decide) ?_
  refine lv_aload_n hx hb dL_setLimit_3 rfl (lv_at hl 0 rfl) ?_
  refine lv_iload_n hx hb dL_setLimit_4 rfl (lv_at hl 1 rfl) ?_
  refine lv_iload_n hx hb dL_setLimit_5 rfl (lv_at hl 2 rfl) ?_
  refine lv_iload_n hx hb dL_setLimit_6 rfl (lv_at hl 3 rfl) ?_
  refine x_contT (x_VT hx hb hml hown hE hS hl.1 cyX6_setLimit tw463 hT ⟨Nat.le_refl _, Nat.le_refl _⟩ ⟨Nat.le_of_eq (Nat.zero_add _), Nat.le_of_eq (Nat.zero_add _)⟩ (x_recv hK hH (id := [0]) hd0 (ci := 6) rfl (by decide) rfl) hH rfl rfl (Nat.le_of_ble_eq_true rfl) dL_setLimit_7) hS (fun ce q9 H1 locs1 hp1 hS1 hce hcv hcl => ?_)
  refine x_catch hown hE htab [⟨0, 12, 15, 19⟩, ⟨0, 12, 19, 21⟩] ⟨0, 12, 23, 30⟩ [⟨0, 12, 27, 13⟩] rfl (fun z hz => by simp only [List.mem_cons, List.not_mem_nil, or_false] at hz; rcases hz with rfl | rfl <;> first | exact ⟨by decide, _, tw247, hLs _ (List.mem_of_getElem? (i := 5) rfl)⟩ | exact ⟨by decide, _, tw248, hLs _ (List.mem_of_getElem? (i := 8) rfl)⟩) rfl (by decide) tw428 cfUO hce hcv hcl ?_
  refine lv_astore (lv' := [(5, .ref q9), (0, .ref (ga g [0])), (1, .int y0), (2, .int y1), (3, .int y2), (4, .ref (ga g [30]))]) hx hb dL_setLimit_23 hl (by decide) rfl (fun ls hl => ?_)
  refine lv_iconst (v := 3) hx hb dL_setLimit_25 (by decide) ?_
  refine W.widen (k := 1) (n := 6) (by omega) (by omega) ?_
  exact x_iret hx hb hr hlocks hS1 dL_setLimit_26 rfl hp1

set_option maxHeartbeats 1000000 in
set_option maxRecDepth 100000 in
theorem w_setLimit_eIS (l : Launch) (g : xG) (dm : List Nat → Prop) (I : xI) (F : xF) (n fr lo : Nat) (y0 y1 y2 : Int32) (hd0 : dm [0]) (hT : xTc l yX6_setLimit (xws yX6_setLimit cX6_setLimit 7 (some FieldType.int)) fr lo g [.ref (ga g [0]), .int y0, .int y1, .int y2] (xR g dm I F n) eIS (xG_ g dm I F n) 1 6) : xMl l yL_setLimit cL_setLimit 6 (some FieldType.int) [(0, 12, 15, 19), (0, 12, 19, 21), (0, 12, 23, 30), (0, 12, 27, 13)] (fr + 1) (8 + (7 + 11) + lo) g [.ref (ga g [0]), .int y0, .int y1, .int y2, .ref (ga g [30])] (xR g dm I F n) (some (.int 4)) (xG_ g dm I F n) 1 6 := by
  refine xMl.of (by decide) (Nat.le_of_ble_eq_true rfl) ?_
  intro P_ e_ s m_ bl_ mt_ cd_ ls hx hb hr hown hlocks hml htab hE hK hts hH hS hl hLs
  have hl : lv_has ls 6 [(0, .ref (ga g [0])), (1, .int y0), (2, .int y1), (3, .int y2), (4, .ref (ga g [30]))] := hl
  refine lv_aload hx hb dL_setLimit_0 (lv_at hl 4 rfl) ?_
  refine lv_iconst (v := 0) hx hb dL_setLimit_2 (by decide) ?_
  refine lv_aload_n hx hb dL_setLimit_3 rfl (lv_at hl 0 rfl) ?_
  refine lv_iload_n hx hb dL_setLimit_4 rfl (lv_at hl 1 rfl) ?_
  refine lv_iload_n hx hb dL_setLimit_5 rfl (lv_at hl 2 rfl) ?_
  refine lv_iload_n hx hb dL_setLimit_6 rfl (lv_at hl 3 rfl) ?_
  refine x_contT (x_VT hx hb hml hown hE hS hl.1 cyX6_setLimit tw463 hT ⟨Nat.le_refl _, Nat.le_refl _⟩ ⟨Nat.le_of_eq (Nat.zero_add _), Nat.le_of_eq (Nat.zero_add _)⟩ (x_recv hK hH (id := [0]) hd0 (ci := 6) rfl (by decide) rfl) hH rfl rfl (Nat.le_of_ble_eq_true rfl) dL_setLimit_7) hS (fun ce q9 H1 locs1 hp1 hS1 hce hcv hcl => ?_)
  refine x_catch hown hE htab [⟨0, 12, 15, 19⟩, ⟨0, 12, 19, 21⟩, ⟨0, 12, 23, 30⟩] ⟨0, 12, 27, 13⟩ [] rfl (fun z hz => by simp only [List.mem_cons, List.not_mem_nil, or_false] at hz; rcases hz with rfl | rfl | rfl <;> first | exact ⟨by decide, _, tw247, hLs _ (List.mem_of_getElem? (i := 3) rfl)⟩ | exact ⟨by decide, _, tw248, hLs _ (List.mem_of_getElem? (i := 7) rfl)⟩ | exact ⟨by decide, _, tw428, hLs _ (List.mem_of_getElem? (i := 9) rfl)⟩) rfl (by decide) tw169 cfIS hce hcv hcl ?_
  refine lv_astore (lv' := [(5, .ref q9), (0, .ref (ga g [0])), (1, .int y0), (2, .int y1), (3, .int y2), (4, .ref (ga g [30]))]) hx hb dL_setLimit_27 hl (by decide) rfl (fun ls hl => ?_)
  refine lv_iconst (v := 4) hx hb dL_setLimit_29 (by decide) ?_
  refine W.widen (k := 1) (n := 6) (by omega) (by omega) ?_
  exact x_iret hx hb hr hlocks hS1 dL_setLimit_30 rfl hp1

set_option maxHeartbeats 1000000 in
set_option maxRecDepth 100000 in
theorem w_setAgain (l : Launch) (g : xG) (dm dm2 : List Nat → Prop) (I I2 : xI) (F F2 : xF) (n n2 fr lo mc ms : Nat) (y0 y1 y2 : Int32) (v : Int32) (hv : sBo v) (hd0 : dm [0]) (hd30 : dm2 [30]) (hM : xM l yX6_setAgain (xws yX6_setAgain cX6_setAgain 7 (some FieldType.boolean)) fr lo g [.ref (ga g [0]), .int y0, .int y1, .int y2] (xR g dm I F n) (some (.int v)) (xR g dm2 I2 F2 n2) mc ms) : xMl l yL_setAgain cL_setAgain 6 (some FieldType.int) [(0, 19, 22, 19), (0, 19, 26, 30), (0, 19, 30, 13)] (fr + 1) (8 + (7 + 11) + lo) g [.ref (ga g [0]), .int y0, .int y1, .int y2, .ref (ga g [30])] (xR g dm I F n) (some (.int 0)) (xR g dm2 (up I2 [30] 0 v) F2 n2) mc ms := by
  refine xMl.of (by decide) (Nat.le_of_ble_eq_true rfl) ?_
  intro P_ e_ s m_ bl_ mt_ cd_ ls hx hb hr hown hlocks hml htab hE hK hts hH hS hl hLs
  have hl : lv_has ls 6 [(0, .ref (ga g [0])), (1, .int y0), (2, .int y1), (3, .int y2), (4, .ref (ga g [30]))] := hl
  refine lv_aload hx hb dL_setAgain_0 (lv_at hl 4 rfl) ?_
  refine lv_iconst (v := 0) hx hb dL_setAgain_2 (by decide) ?_
  refine lv_aload_n hx hb dL_setAgain_3 rfl (lv_at hl 0 rfl) ?_
  refine lv_iload_n hx hb dL_setAgain_4 rfl (lv_at hl 1 rfl) ?_
  refine lv_iload_n hx hb dL_setAgain_5 rfl (lv_at hl 2 rfl) ?_
  refine lv_iload_n hx hb dL_setAgain_6 rfl (lv_at hl 3 rfl) ?_
  refine x_V1 hx hb hml hown hE hS hl.1 cyX6_setAgain tw471 hM ⟨Nat.le_refl _, Nat.le_refl _⟩ ⟨Nat.le_of_eq (Nat.zero_add _), Nat.le_of_eq (Nat.zero_add _)⟩ (x_recv hK hH (id := [0]) hd0 (ci := 6) rfl (by decide) rfl) hH rfl rfl (Nat.le_of_ble_eq_true rfl) dL_setAgain_7 (fun H locs hH hS => ?_)
  rcases hv with hv | hv
  · skip
    refine lv_if_eq (tgt := 17) hx hb dL_setAgain_10 (by decide) (fun _ => ?_) (fun q_ => absurd hv q_)
    refine lv_lconst (v := 0) hx hb dL_setAgain_17 (by decide) ?_
    refine x_last hx hb hK hH hS hd30 (show (0 : Int64) = v.toInt64 by rw [hv]; rfl) dL_setAgain_18 (fun H locs hH hS => ?_)
    refine lv_goto (tgt := 34) hx hb dL_setAgain_19 (by decide) ?_
    refine lv_iconst (v := 0) hx hb dL_setAgain_34 (by decide) ?_
    refine W.widen (k := mc) (n := ms) (by omega) (by omega) ?_
    exact x_iret hx hb hr hlocks hS dL_setAgain_35 rfl hH
  · skip
    refine lv_if_eq (tgt := 17) hx hb dL_setAgain_10 (by decide) (fun q_ => absurd q_ (by rw [hv]; decide)) (fun _ => ?_)
    refine lv_lconst (v := 1) hx hb dL_setAgain_13 (by decide) ?_
    refine lv_goto (tgt := 18) hx hb dL_setAgain_14 (by decide) ?_
    refine x_last hx hb hK hH hS hd30 (show (1 : Int64) = v.toInt64 by rw [hv]; rfl) dL_setAgain_18 (fun H locs hH hS => ?_)
    refine lv_goto (tgt := 34) hx hb dL_setAgain_19 (by decide) ?_
    refine lv_iconst (v := 0) hx hb dL_setAgain_34 (by decide) ?_
    refine W.widen (k := mc) (n := ms) (by omega) (by omega) ?_
    exact x_iret hx hb hr hlocks hS dL_setAgain_35 rfl hH

set_option maxHeartbeats 1000000 in
set_option maxRecDepth 100000 in
theorem w_setAgain_eIO (l : Launch) (g : xG) (dm : List Nat → Prop) (I : xI) (F : xF) (n fr lo : Nat) (y0 y1 y2 : Int32) (hd0 : dm [0]) (hT : xTc l yX6_setAgain (xws yX6_setAgain cX6_setAgain 7 (some FieldType.boolean)) fr lo g [.ref (ga g [0]), .int y0, .int y1, .int y2] (xR g dm I F n) eIO (xG_ g dm I F n) 1 6) : xMl l yL_setAgain cL_setAgain 6 (some FieldType.int) [(0, 19, 22, 19), (0, 19, 26, 30), (0, 19, 30, 13)] (fr + 1) (8 + (7 + 11) + lo) g [.ref (ga g [0]), .int y0, .int y1, .int y2, .ref (ga g [30])] (xR g dm I F n) (some (.int 1)) (xG_ g dm I F n) 1 6 := by
  refine xMl.of (by decide) (Nat.le_of_ble_eq_true rfl) ?_
  intro P_ e_ s m_ bl_ mt_ cd_ ls hx hb hr hown hlocks hml htab hE hK hts hH hS hl hLs
  have hl : lv_has ls 6 [(0, .ref (ga g [0])), (1, .int y0), (2, .int y1), (3, .int y2), (4, .ref (ga g [30]))] := hl
  refine lv_aload hx hb dL_setAgain_0 (lv_at hl 4 rfl) ?_
  refine lv_iconst (v := 0) hx hb dL_setAgain_2 (by decide) ?_
  refine lv_aload_n hx hb dL_setAgain_3 rfl (lv_at hl 0 rfl) ?_
  refine lv_iload_n hx hb dL_setAgain_4 rfl (lv_at hl 1 rfl) ?_
  refine lv_iload_n hx hb dL_setAgain_5 rfl (lv_at hl 2 rfl) ?_
  refine lv_iload_n hx hb dL_setAgain_6 rfl (lv_at hl 3 rfl) ?_
  refine x_contT (x_VT hx hb hml hown hE hS hl.1 cyX6_setAgain tw471 hT ⟨Nat.le_refl _, Nat.le_refl _⟩ ⟨Nat.le_of_eq (Nat.zero_add _), Nat.le_of_eq (Nat.zero_add _)⟩ (x_recv hK hH (id := [0]) hd0 (ci := 6) rfl (by decide) rfl) hH rfl rfl (Nat.le_of_ble_eq_true rfl) dL_setAgain_7) hS (fun ce q9 H1 locs1 hp1 hS1 hce hcv hcl => ?_)
  refine x_catch hown hE htab [] ⟨0, 19, 22, 19⟩ [⟨0, 19, 26, 30⟩, ⟨0, 19, 30, 13⟩] rfl (fun z hz => absurd hz List.not_mem_nil) rfl (by decide) tw247 cfIO hce hcv hcl ?_
  refine lv_astore (lv' := [(5, .ref q9), (0, .ref (ga g [0])), (1, .int y0), (2, .int y1), (3, .int y2), (4, .ref (ga g [30]))]) hx hb dL_setAgain_22 hl (by decide) rfl (fun ls hl => ?_)
  refine lv_iconst (v := 1) hx hb dL_setAgain_24 (by decide) ?_
  refine W.widen (k := 1) (n := 6) (by omega) (by omega) ?_
  exact x_iret hx hb hr hlocks hS1 dL_setAgain_25 rfl hp1

set_option maxHeartbeats 1000000 in
set_option maxRecDepth 100000 in
theorem w_setAgain_eUO (l : Launch) (g : xG) (dm : List Nat → Prop) (I : xI) (F : xF) (n fr lo : Nat) (y0 y1 y2 : Int32) (hd0 : dm [0]) (hT : xTc l yX6_setAgain (xws yX6_setAgain cX6_setAgain 7 (some FieldType.boolean)) fr lo g [.ref (ga g [0]), .int y0, .int y1, .int y2] (xR g dm I F n) eUO (xG_ g dm I F n) 1 6) : xMl l yL_setAgain cL_setAgain 6 (some FieldType.int) [(0, 19, 22, 19), (0, 19, 26, 30), (0, 19, 30, 13)] (fr + 1) (8 + (7 + 11) + lo) g [.ref (ga g [0]), .int y0, .int y1, .int y2, .ref (ga g [30])] (xR g dm I F n) (some (.int 2)) (xG_ g dm I F n) 1 6 := by
  refine xMl.of (by decide) (Nat.le_of_ble_eq_true rfl) ?_
  intro P_ e_ s m_ bl_ mt_ cd_ ls hx hb hr hown hlocks hml htab hE hK hts hH hS hl hLs
  have hl : lv_has ls 6 [(0, .ref (ga g [0])), (1, .int y0), (2, .int y1), (3, .int y2), (4, .ref (ga g [30]))] := hl
  refine lv_aload hx hb dL_setAgain_0 (lv_at hl 4 rfl) ?_
  refine lv_iconst (v := 0) hx hb dL_setAgain_2 (by decide) ?_
  refine lv_aload_n hx hb dL_setAgain_3 rfl (lv_at hl 0 rfl) ?_
  refine lv_iload_n hx hb dL_setAgain_4 rfl (lv_at hl 1 rfl) ?_
  refine lv_iload_n hx hb dL_setAgain_5 rfl (lv_at hl 2 rfl) ?_
  refine lv_iload_n hx hb dL_setAgain_6 rfl (lv_at hl 3 rfl) ?_
  refine x_contT (x_VT hx hb hml hown hE hS hl.1 cyX6_setAgain tw471 hT ⟨Nat.le_refl _, Nat.le_refl _⟩ ⟨Nat.le_of_eq (Nat.zero_add _), Nat.le_of_eq (Nat.zero_add _)⟩ (x_recv hK hH (id := [0]) hd0 (ci := 6) rfl (by decide) rfl) hH rfl rfl (Nat.le_of_ble_eq_true rfl) dL_setAgain_7) hS (fun ce q9 H1 locs1 hp1 hS1 hce hcv hcl => ?_)
  refine x_catch hown hE htab [⟨0, 19, 22, 19⟩] ⟨0, 19, 26, 30⟩ [⟨0, 19, 30, 13⟩] rfl (fun z hz => by simp only [List.mem_cons, List.not_mem_nil, or_false] at hz; rcases hz with rfl; exact ⟨by decide, _, tw247, hLs _ (List.mem_of_getElem? (i := 5) rfl)⟩) rfl (by decide) tw428 cfUO hce hcv hcl ?_
  refine lv_astore (lv' := [(5, .ref q9), (0, .ref (ga g [0])), (1, .int y0), (2, .int y1), (3, .int y2), (4, .ref (ga g [30]))]) hx hb dL_setAgain_26 hl (by decide) rfl (fun ls hl => ?_)
  refine lv_iconst (v := 2) hx hb dL_setAgain_28 (by decide) ?_
  refine W.widen (k := 1) (n := 6) (by omega) (by omega) ?_
  exact x_iret hx hb hr hlocks hS1 dL_setAgain_29 rfl hp1

set_option maxHeartbeats 1000000 in
set_option maxRecDepth 100000 in
theorem w_setAgain_eIS (l : Launch) (g : xG) (dm : List Nat → Prop) (I : xI) (F : xF) (n fr lo : Nat) (y0 y1 y2 : Int32) (hd0 : dm [0]) (hT : xTc l yX6_setAgain (xws yX6_setAgain cX6_setAgain 7 (some FieldType.boolean)) fr lo g [.ref (ga g [0]), .int y0, .int y1, .int y2] (xR g dm I F n) eIS (xG_ g dm I F n) 1 6) : xMl l yL_setAgain cL_setAgain 6 (some FieldType.int) [(0, 19, 22, 19), (0, 19, 26, 30), (0, 19, 30, 13)] (fr + 1) (8 + (7 + 11) + lo) g [.ref (ga g [0]), .int y0, .int y1, .int y2, .ref (ga g [30])] (xR g dm I F n) (some (.int 3)) (xG_ g dm I F n) 1 6 := by
  refine xMl.of (by decide) (Nat.le_of_ble_eq_true rfl) ?_
  intro P_ e_ s m_ bl_ mt_ cd_ ls hx hb hr hown hlocks hml htab hE hK hts hH hS hl hLs
  have hl : lv_has ls 6 [(0, .ref (ga g [0])), (1, .int y0), (2, .int y1), (3, .int y2), (4, .ref (ga g [30]))] := hl
  refine lv_aload hx hb dL_setAgain_0 (lv_at hl 4 rfl) ?_
  refine lv_iconst (v := 0) hx hb dL_setAgain_2 (by decide) ?_
  refine lv_aload_n hx hb dL_setAgain_3 rfl (lv_at hl 0 rfl) ?_
  refine lv_iload_n hx hb dL_setAgain_4 rfl (lv_at hl 1 rfl) ?_
  refine lv_iload_n hx hb dL_setAgain_5 rfl (lv_at hl 2 rfl) ?_
  refine lv_iload_n hx hb dL_setAgain_6 rfl (lv_at hl 3 rfl) ?_
  refine x_contT (x_VT hx hb hml hown hE hS hl.1 cyX6_setAgain tw471 hT ⟨Nat.le_refl _, Nat.le_refl _⟩ ⟨Nat.le_of_eq (Nat.zero_add _), Nat.le_of_eq (Nat.zero_add _)⟩ (x_recv hK hH (id := [0]) hd0 (ci := 6) rfl (by decide) rfl) hH rfl rfl (Nat.le_of_ble_eq_true rfl) dL_setAgain_7) hS (fun ce q9 H1 locs1 hp1 hS1 hce hcv hcl => ?_)
  refine x_catch hown hE htab [⟨0, 19, 22, 19⟩, ⟨0, 19, 26, 30⟩] ⟨0, 19, 30, 13⟩ [] rfl (fun z hz => by simp only [List.mem_cons, List.not_mem_nil, or_false] at hz; rcases hz with rfl | rfl <;> first | exact ⟨by decide, _, tw247, hLs _ (List.mem_of_getElem? (i := 3) rfl)⟩ | exact ⟨by decide, _, tw428, hLs _ (List.mem_of_getElem? (i := 9) rfl)⟩) rfl (by decide) tw169 cfIS hce hcv hcl ?_
  refine lv_astore (lv' := [(5, .ref q9), (0, .ref (ga g [0])), (1, .int y0), (2, .int y1), (3, .int y2), (4, .ref (ga g [30]))]) hx hb dL_setAgain_30 hl (by decide) rfl (fun ls hl => ?_)
  refine lv_iconst (v := 3) hx hb dL_setAgain_32 (by decide) ?_
  refine W.widen (k := 1) (n := 6) (by omega) (by omega) ?_
  exact x_iret hx hb hr hlocks hS1 dL_setAgain_33 rfl hp1

set_option maxHeartbeats 1000000 in
set_option maxRecDepth 100000 in
theorem w_steps (l : Launch) (g : xG) (dm dm2 : List Nat → Prop) (I I2 : xI) (F F2 : xF) (n n2 fr lo mc ms : Nat) (y0 : Int32) (v : Int32) (hd0 : dm [0]) (hd30 : dm2 [30]) (hM : xM l yX6_steps (xws yX6_steps cX6_steps 2 (some FieldType.int)) fr lo g [.ref (ga g [0]), .int y0] (xR g dm I F n) (some (.int v)) (xR g dm2 I2 F2 n2) mc ms) : xMl l yL_steps cL_steps 4 (some FieldType.int) [(0, 9, 12, 19)] (fr + 1) (8 + (2 + 11) + lo) g [.ref (ga g [0]), .int y0, .ref (ga g [30])] (xR g dm I F n) (some (.int 0)) (xR g dm2 (up I2 [30] 0 v) F2 n2) mc ms := by
  refine xMl.of (by decide) (Nat.le_of_ble_eq_true rfl) ?_
  intro P_ e_ s m_ bl_ mt_ cd_ ls hx hb hr hown hlocks hml htab hE hK hts hH hS hl hLs
  have hl : lv_has ls 4 [(0, .ref (ga g [0])), (1, .int y0), (2, .ref (ga g [30]))] := hl
  refine lv_aload_n hx hb dL_steps_0 rfl (lv_at hl 2 rfl) ?_
  refine lv_iconst (v := 0) hx hb dL_steps_1 (by decide) ?_
  refine lv_aload_n hx hb dL_steps_2 rfl (lv_at hl 0 rfl) ?_
  refine lv_iload_n hx hb dL_steps_3 rfl (lv_at hl 1 rfl) ?_
  refine x_V1 hx hb hml hown hE hS hl.1 cyX6_steps tw479 hM ⟨Nat.le_refl _, Nat.le_refl _⟩ ⟨Nat.le_of_eq (Nat.zero_add _), Nat.le_of_eq (Nat.zero_add _)⟩ (x_recv hK hH (id := [0]) hd0 (ci := 6) rfl (by decide) rfl) hH rfl rfl (Nat.le_of_ble_eq_true rfl) dL_steps_4 (fun H locs hH hS => ?_)
  refine lv_i2l hx hb dL_steps_7 rfl ?_
  refine x_last hx hb hK hH hS hd30 rfl dL_steps_8 (fun H locs hH hS => ?_)
  refine lv_goto (tgt := 15) hx hb dL_steps_9 (by decide) ?_
  refine lv_iconst (v := 0) hx hb dL_steps_15 (by decide) ?_
  refine W.widen (k := mc) (n := ms) (by omega) (by omega) ?_
  exact x_iret hx hb hr hlocks hS dL_steps_16 rfl hH

set_option maxHeartbeats 1000000 in
set_option maxRecDepth 100000 in
theorem w_steps_eIO (l : Launch) (g : xG) (dm : List Nat → Prop) (I : xI) (F : xF) (n fr lo : Nat) (y0 : Int32) (hd0 : dm [0]) (hT : xTc l yX6_steps (xws yX6_steps cX6_steps 2 (some FieldType.int)) fr lo g [.ref (ga g [0]), .int y0] (xR g dm I F n) eIO (xG_ g dm I F n) 1 6) : xMl l yL_steps cL_steps 4 (some FieldType.int) [(0, 9, 12, 19)] (fr + 1) (8 + (2 + 11) + lo) g [.ref (ga g [0]), .int y0, .ref (ga g [30])] (xR g dm I F n) (some (.int 1)) (xG_ g dm I F n) 1 6 := by
  refine xMl.of (by decide) (Nat.le_of_ble_eq_true rfl) ?_
  intro P_ e_ s m_ bl_ mt_ cd_ ls hx hb hr hown hlocks hml htab hE hK hts hH hS hl hLs
  have hl : lv_has ls 4 [(0, .ref (ga g [0])), (1, .int y0), (2, .ref (ga g [30]))] := hl
  refine lv_aload_n hx hb dL_steps_0 rfl (lv_at hl 2 rfl) ?_
  refine lv_iconst (v := 0) hx hb dL_steps_1 (by decide) ?_
  refine lv_aload_n hx hb dL_steps_2 rfl (lv_at hl 0 rfl) ?_
  refine lv_iload_n hx hb dL_steps_3 rfl (lv_at hl 1 rfl) ?_
  refine x_contT (x_VT hx hb hml hown hE hS hl.1 cyX6_steps tw479 hT ⟨Nat.le_refl _, Nat.le_refl _⟩ ⟨Nat.le_of_eq (Nat.zero_add _), Nat.le_of_eq (Nat.zero_add _)⟩ (x_recv hK hH (id := [0]) hd0 (ci := 6) rfl (by decide) rfl) hH rfl rfl (Nat.le_of_ble_eq_true rfl) dL_steps_4) hS (fun ce q9 H1 locs1 hp1 hS1 hce hcv hcl => ?_)
  refine x_catch hown hE htab [] ⟨0, 9, 12, 19⟩ [] rfl (fun z hz => absurd hz List.not_mem_nil) rfl (by decide) tw247 cfIO hce hcv hcl ?_
  refine lv_astore_n (lv' := [(3, .ref q9), (0, .ref (ga g [0])), (1, .int y0), (2, .ref (ga g [30]))]) hx hb dL_steps_12 rfl hl (by decide) rfl (fun ls hl => ?_)
  refine lv_iconst (v := 1) hx hb dL_steps_13 (by decide) ?_
  refine W.widen (k := 1) (n := 6) (by omega) (by omega) ?_
  exact x_iret hx hb hr hlocks hS1 dL_steps_14 rfl hp1

set_option maxHeartbeats 1000000 in
set_option maxRecDepth 100000 in
theorem w_isUsed (l : Launch) (g : xG) (dm dm2 : List Nat → Prop) (I I2 : xI) (F F2 : xF) (n n2 fr lo mc ms : Nat) (y0 : Int32) (v : Int32) (hv : sBo v) (hd0 : dm [0]) (hd30 : dm2 [30]) (hM : xM l yX6_isUsed (xws yX6_isUsed cX6_isUsed 2 (some FieldType.boolean)) fr lo g [.ref (ga g [0]), .int y0] (xR g dm I F n) (some (.int v)) (xR g dm2 I2 F2 n2) mc ms) : xMl l yL_isUsed cL_isUsed 4 (some FieldType.int) [(0, 16, 19, 19)] (fr + 1) (8 + (2 + 11) + lo) g [.ref (ga g [0]), .int y0, .ref (ga g [30])] (xR g dm I F n) (some (.int 0)) (xR g dm2 (up I2 [30] 0 v) F2 n2) mc ms := by
  refine xMl.of (by decide) (Nat.le_of_ble_eq_true rfl) ?_
  intro P_ e_ s m_ bl_ mt_ cd_ ls hx hb hr hown hlocks hml htab hE hK hts hH hS hl hLs
  have hl : lv_has ls 4 [(0, .ref (ga g [0])), (1, .int y0), (2, .ref (ga g [30]))] := hl
  refine lv_aload_n hx hb dL_isUsed_0 rfl (lv_at hl 2 rfl) ?_
  refine lv_iconst (v := 0) hx hb dL_isUsed_1 (by decide) ?_
  refine lv_aload_n hx hb dL_isUsed_2 rfl (lv_at hl 0 rfl) ?_
  refine lv_iload_n hx hb dL_isUsed_3 rfl (lv_at hl 1 rfl) ?_
  refine x_V1 hx hb hml hown hE hS hl.1 cyX6_isUsed tw486 hM ⟨Nat.le_refl _, Nat.le_refl _⟩ ⟨Nat.le_of_eq (Nat.zero_add _), Nat.le_of_eq (Nat.zero_add _)⟩ (x_recv hK hH (id := [0]) hd0 (ci := 6) rfl (by decide) rfl) hH rfl rfl (Nat.le_of_ble_eq_true rfl) dL_isUsed_4 (fun H locs hH hS => ?_)
  rcases hv with hv | hv
  · skip
    refine lv_if_eq (tgt := 14) hx hb dL_isUsed_7 (by decide) (fun _ => ?_) (fun q_ => absurd hv q_)
    refine lv_lconst (v := 0) hx hb dL_isUsed_14 (by decide) ?_
    refine x_last hx hb hK hH hS hd30 (show (0 : Int64) = v.toInt64 by rw [hv]; rfl) dL_isUsed_15 (fun H locs hH hS => ?_)
    refine lv_goto (tgt := 22) hx hb dL_isUsed_16 (by decide) ?_
    refine lv_iconst (v := 0) hx hb dL_isUsed_22 (by decide) ?_
    refine W.widen (k := mc) (n := ms) (by omega) (by omega) ?_
    exact x_iret hx hb hr hlocks hS dL_isUsed_23 rfl hH
  · skip
    refine lv_if_eq (tgt := 14) hx hb dL_isUsed_7 (by decide) (fun q_ => absurd q_ (by rw [hv]; decide)) (fun _ => ?_)
    refine lv_lconst (v := 1) hx hb dL_isUsed_10 (by decide) ?_
    refine lv_goto (tgt := 15) hx hb dL_isUsed_11 (by decide) ?_
    refine x_last hx hb hK hH hS hd30 (show (1 : Int64) = v.toInt64 by rw [hv]; rfl) dL_isUsed_15 (fun H locs hH hS => ?_)
    refine lv_goto (tgt := 22) hx hb dL_isUsed_16 (by decide) ?_
    refine lv_iconst (v := 0) hx hb dL_isUsed_22 (by decide) ?_
    refine W.widen (k := mc) (n := ms) (by omega) (by omega) ?_
    exact x_iret hx hb hr hlocks hS dL_isUsed_23 rfl hH

set_option maxHeartbeats 1000000 in
set_option maxRecDepth 100000 in
theorem w_isUsed_eIO (l : Launch) (g : xG) (dm : List Nat → Prop) (I : xI) (F : xF) (n fr lo : Nat) (y0 : Int32) (hd0 : dm [0]) (hT : xTc l yX6_isUsed (xws yX6_isUsed cX6_isUsed 2 (some FieldType.boolean)) fr lo g [.ref (ga g [0]), .int y0] (xR g dm I F n) eIO (xG_ g dm I F n) 1 6) : xMl l yL_isUsed cL_isUsed 4 (some FieldType.int) [(0, 16, 19, 19)] (fr + 1) (8 + (2 + 11) + lo) g [.ref (ga g [0]), .int y0, .ref (ga g [30])] (xR g dm I F n) (some (.int 1)) (xG_ g dm I F n) 1 6 := by
  refine xMl.of (by decide) (Nat.le_of_ble_eq_true rfl) ?_
  intro P_ e_ s m_ bl_ mt_ cd_ ls hx hb hr hown hlocks hml htab hE hK hts hH hS hl hLs
  have hl : lv_has ls 4 [(0, .ref (ga g [0])), (1, .int y0), (2, .ref (ga g [30]))] := hl
  refine lv_aload_n hx hb dL_isUsed_0 rfl (lv_at hl 2 rfl) ?_
  refine lv_iconst (v := 0) hx hb dL_isUsed_1 (by decide) ?_
  refine lv_aload_n hx hb dL_isUsed_2 rfl (lv_at hl 0 rfl) ?_
  refine lv_iload_n hx hb dL_isUsed_3 rfl (lv_at hl 1 rfl) ?_
  refine x_contT (x_VT hx hb hml hown hE hS hl.1 cyX6_isUsed tw486 hT ⟨Nat.le_refl _, Nat.le_refl _⟩ ⟨Nat.le_of_eq (Nat.zero_add _), Nat.le_of_eq (Nat.zero_add _)⟩ (x_recv hK hH (id := [0]) hd0 (ci := 6) rfl (by decide) rfl) hH rfl rfl (Nat.le_of_ble_eq_true rfl) dL_isUsed_4) hS (fun ce q9 H1 locs1 hp1 hS1 hce hcv hcl => ?_)
  refine x_catch hown hE htab [] ⟨0, 16, 19, 19⟩ [] rfl (fun z hz => absurd hz List.not_mem_nil) rfl (by decide) tw247 cfIO hce hcv hcl ?_
  refine lv_astore_n (lv' := [(3, .ref q9), (0, .ref (ga g [0])), (1, .int y0), (2, .ref (ga g [30]))]) hx hb dL_isUsed_19 rfl hl (by decide) rfl (fun ls hl => ?_)
  refine lv_iconst (v := 1) hx hb dL_isUsed_20 (by decide) ?_
  refine W.widen (k := 1) (n := 6) (by omega) (by omega) ?_
  exact x_iret hx hb hr hlocks hS1 dL_isUsed_21 rfl hp1

set_option maxHeartbeats 1000000 in
set_option maxRecDepth 100000 in
theorem w_begin (l : Launch) (g : xG) (dm dm2 : List Nat → Prop) (I I2 : xI) (F F2 : xF) (n n2 fr lo mc ms : Nat) (y0 : Int32) (v : Int32) (hd0 : dm [0]) (hd30 : dm2 [30]) (hM : xM l yX6_begin (xws yX6_begin cX6_begin 5 (some FieldType.int)) fr lo g [.ref (ga g [0]), .int y0] (xR g dm I F n) (some (.int v)) (xR g dm2 I2 F2 n2) mc ms) : xMl l yL_begin cL_begin 4 (some FieldType.int) [(0, 9, 12, 19), (0, 9, 15, 13)] (fr + 1) (8 + (5 + 11) + lo) g [.ref (ga g [0]), .int y0, .ref (ga g [30])] (xR g dm I F n) (some (.int 0)) (xR g dm2 (up I2 [30] 0 v) F2 n2) mc ms := by
  refine xMl.of (by decide) (Nat.le_of_ble_eq_true rfl) ?_
  intro P_ e_ s m_ bl_ mt_ cd_ ls hx hb hr hown hlocks hml htab hE hK hts hH hS hl hLs
  have hl : lv_has ls 4 [(0, .ref (ga g [0])), (1, .int y0), (2, .ref (ga g [30]))] := hl
  refine lv_aload_n hx hb dL_begin_0 rfl (lv_at hl 2 rfl) ?_
  refine lv_iconst (v := 0) hx hb dL_begin_1 (by decide) ?_
  refine lv_aload_n hx hb dL_begin_2 rfl (lv_at hl 0 rfl) ?_
  refine lv_iload_n hx hb dL_begin_3 rfl (lv_at hl 1 rfl) ?_
  refine x_V1 hx hb hml hown hE hS hl.1 cyX6_begin tw493 hM ⟨Nat.le_refl _, Nat.le_refl _⟩ ⟨Nat.le_of_eq (Nat.zero_add _), Nat.le_of_eq (Nat.zero_add _)⟩ (x_recv hK hH (id := [0]) hd0 (ci := 6) rfl (by decide) rfl) hH rfl rfl (Nat.le_of_ble_eq_true rfl) dL_begin_4 (fun H locs hH hS => ?_)
  refine lv_i2l hx hb dL_begin_7 rfl ?_
  refine x_last hx hb hK hH hS hd30 rfl dL_begin_8 (fun H locs hH hS => ?_)
  refine lv_goto (tgt := 18) hx hb dL_begin_9 (by decide) ?_
  refine lv_iconst (v := 0) hx hb dL_begin_18 (by decide) ?_
  refine W.widen (k := mc) (n := ms) (by omega) (by omega) ?_
  exact x_iret hx hb hr hlocks hS dL_begin_19 rfl hH

set_option maxHeartbeats 1000000 in
set_option maxRecDepth 100000 in
theorem w_begin_eIO (l : Launch) (g : xG) (dm : List Nat → Prop) (I : xI) (F : xF) (n fr lo : Nat) (y0 : Int32) (hd0 : dm [0]) (hT : xTc l yX6_begin (xws yX6_begin cX6_begin 5 (some FieldType.int)) fr lo g [.ref (ga g [0]), .int y0] (xR g dm I F n) eIO (xG_ g dm I F n) 1 6) : xMl l yL_begin cL_begin 4 (some FieldType.int) [(0, 9, 12, 19), (0, 9, 15, 13)] (fr + 1) (8 + (5 + 11) + lo) g [.ref (ga g [0]), .int y0, .ref (ga g [30])] (xR g dm I F n) (some (.int 1)) (xG_ g dm I F n) 1 6 := by
  refine xMl.of (by decide) (Nat.le_of_ble_eq_true rfl) ?_
  intro P_ e_ s m_ bl_ mt_ cd_ ls hx hb hr hown hlocks hml htab hE hK hts hH hS hl hLs
  have hl : lv_has ls 4 [(0, .ref (ga g [0])), (1, .int y0), (2, .ref (ga g [30]))] := hl
  refine lv_aload_n hx hb dL_begin_0 rfl (lv_at hl 2 rfl) ?_
  refine lv_iconst (v := 0) hx hb dL_begin_1 (by decide) ?_
  refine lv_aload_n hx hb dL_begin_2 rfl (lv_at hl 0 rfl) ?_
  refine lv_iload_n hx hb dL_begin_3 rfl (lv_at hl 1 rfl) ?_
  refine x_contT (x_VT hx hb hml hown hE hS hl.1 cyX6_begin tw493 hT ⟨Nat.le_refl _, Nat.le_refl _⟩ ⟨Nat.le_of_eq (Nat.zero_add _), Nat.le_of_eq (Nat.zero_add _)⟩ (x_recv hK hH (id := [0]) hd0 (ci := 6) rfl (by decide) rfl) hH rfl rfl (Nat.le_of_ble_eq_true rfl) dL_begin_4) hS (fun ce q9 H1 locs1 hp1 hS1 hce hcv hcl => ?_)
  refine x_catch hown hE htab [] ⟨0, 9, 12, 19⟩ [⟨0, 9, 15, 13⟩] rfl (fun z hz => absurd hz List.not_mem_nil) rfl (by decide) tw247 cfIO hce hcv hcl ?_
  refine lv_astore_n (lv' := [(3, .ref q9), (0, .ref (ga g [0])), (1, .int y0), (2, .ref (ga g [30]))]) hx hb dL_begin_12 rfl hl (by decide) rfl (fun ls hl => ?_)
  refine lv_iconst (v := 1) hx hb dL_begin_13 (by decide) ?_
  refine W.widen (k := 1) (n := 6) (by omega) (by omega) ?_
  exact x_iret hx hb hr hlocks hS1 dL_begin_14 rfl hp1

set_option maxHeartbeats 1000000 in
set_option maxRecDepth 100000 in
theorem w_begin_eIS (l : Launch) (g : xG) (dm : List Nat → Prop) (I : xI) (F : xF) (n fr lo : Nat) (y0 : Int32) (hd0 : dm [0]) (hT : xTc l yX6_begin (xws yX6_begin cX6_begin 5 (some FieldType.int)) fr lo g [.ref (ga g [0]), .int y0] (xR g dm I F n) eIS (xG_ g dm I F n) 1 6) : xMl l yL_begin cL_begin 4 (some FieldType.int) [(0, 9, 12, 19), (0, 9, 15, 13)] (fr + 1) (8 + (5 + 11) + lo) g [.ref (ga g [0]), .int y0, .ref (ga g [30])] (xR g dm I F n) (some (.int 2)) (xG_ g dm I F n) 1 6 := by
  refine xMl.of (by decide) (Nat.le_of_ble_eq_true rfl) ?_
  intro P_ e_ s m_ bl_ mt_ cd_ ls hx hb hr hown hlocks hml htab hE hK hts hH hS hl hLs
  have hl : lv_has ls 4 [(0, .ref (ga g [0])), (1, .int y0), (2, .ref (ga g [30]))] := hl
  refine lv_aload_n hx hb dL_begin_0 rfl (lv_at hl 2 rfl) ?_
  refine lv_iconst (v := 0) hx hb dL_begin_1 (by decide) ?_
  refine lv_aload_n hx hb dL_begin_2 rfl (lv_at hl 0 rfl) ?_
  refine lv_iload_n hx hb dL_begin_3 rfl (lv_at hl 1 rfl) ?_
  refine x_contT (x_VT hx hb hml hown hE hS hl.1 cyX6_begin tw493 hT ⟨Nat.le_refl _, Nat.le_refl _⟩ ⟨Nat.le_of_eq (Nat.zero_add _), Nat.le_of_eq (Nat.zero_add _)⟩ (x_recv hK hH (id := [0]) hd0 (ci := 6) rfl (by decide) rfl) hH rfl rfl (Nat.le_of_ble_eq_true rfl) dL_begin_4) hS (fun ce q9 H1 locs1 hp1 hS1 hce hcv hcl => ?_)
  refine x_catch hown hE htab [⟨0, 9, 12, 19⟩] ⟨0, 9, 15, 13⟩ [] rfl (fun z hz => by simp only [List.mem_cons, List.not_mem_nil, or_false] at hz; rcases hz with rfl; exact ⟨by decide, _, tw247, hLs _ (List.mem_of_getElem? (i := 3) rfl)⟩) rfl (by decide) tw169 cfIS hce hcv hcl ?_
  refine lv_astore_n (lv' := [(3, .ref q9), (0, .ref (ga g [0])), (1, .int y0), (2, .ref (ga g [30]))]) hx hb dL_begin_15 rfl hl (by decide) rfl (fun ls hl => ?_)
  refine lv_iconst (v := 2) hx hb dL_begin_16 (by decide) ?_
  refine W.widen (k := 1) (n := 6) (by omega) (by omega) ?_
  exact x_iret hx hb hr hlocks hS1 dL_begin_17 rfl hp1

set_option maxHeartbeats 1000000 in
set_option maxRecDepth 100000 in
theorem w_set (l : Launch) (g : xG) (dm dm2 : List Nat → Prop) (I I2 : xI) (F F2 : xF) (n n2 fr lo mc ms : Nat) (y0 y1 y2 : Int32) (v : Int32) (hd0 : dm [0]) (hd30 : dm2 [30]) (hM : xM l yX6_set (xws yX6_set cX6_set 6 (some FieldType.int)) fr lo g [.ref (ga g [0]), .int y0, .int y1, .int y2] (xR g dm I F n) (some (.int v)) (xR g dm2 I2 F2 n2) mc ms) : xMl l yL_set cL_set 6 (some FieldType.int) [(0, 12, 15, 19), (0, 12, 19, 21)] (fr + 1) (8 + (6 + 11) + lo) g [.ref (ga g [0]), .int y0, .int y1, .int y2, .ref (ga g [30])] (xR g dm I F n) (some (.int 0)) (xR g dm2 (up I2 [30] 0 v) F2 n2) mc ms := by
  refine xMl.of (by decide) (Nat.le_of_ble_eq_true rfl) ?_
  intro P_ e_ s m_ bl_ mt_ cd_ ls hx hb hr hown hlocks hml htab hE hK hts hH hS hl hLs
  have hl : lv_has ls 6 [(0, .ref (ga g [0])), (1, .int y0), (2, .int y1), (3, .int y2), (4, .ref (ga g [30]))] := hl
  refine lv_aload hx hb dL_set_0 (lv_at hl 4 rfl) ?_
  refine lv_iconst (v := 0) hx hb dL_set_2 (by decide) ?_
  refine lv_aload_n hx hb dL_set_3 rfl (lv_at hl 0 rfl) ?_
  refine lv_iload_n hx hb dL_set_4 rfl (lv_at hl 1 rfl) ?_
  refine lv_iload_n hx hb dL_set_5 rfl (lv_at hl 2 rfl) ?_
  refine lv_iload_n hx hb dL_set_6 rfl (lv_at hl 3 rfl) ?_
  refine x_V1 hx hb hml hown hE hS hl.1 cyX6_set tw582 hM ⟨Nat.le_refl _, Nat.le_refl _⟩ ⟨Nat.le_of_eq (Nat.zero_add _), Nat.le_of_eq (Nat.zero_add _)⟩ (x_recv hK hH (id := [0]) hd0 (ci := 6) rfl (by decide) rfl) hH rfl rfl (Nat.le_of_ble_eq_true rfl) dL_set_7 (fun H locs hH hS => ?_)
  refine lv_i2l hx hb dL_set_10 rfl ?_
  refine x_last hx hb hK hH hS hd30 rfl dL_set_11 (fun H locs hH hS => ?_)
  refine lv_goto (tgt := 23) hx hb dL_set_12 (by decide) ?_
  refine lv_iconst (v := 0) hx hb dL_set_23 (by decide) ?_
  refine W.widen (k := mc) (n := ms) (by omega) (by omega) ?_
  exact x_iret hx hb hr hlocks hS dL_set_24 rfl hH

set_option maxHeartbeats 1000000 in
set_option maxRecDepth 100000 in
theorem w_set_eIO (l : Launch) (g : xG) (dm : List Nat → Prop) (I : xI) (F : xF) (n fr lo : Nat) (y0 y1 y2 : Int32) (hd0 : dm [0]) (hT : xTc l yX6_set (xws yX6_set cX6_set 6 (some FieldType.int)) fr lo g [.ref (ga g [0]), .int y0, .int y1, .int y2] (xR g dm I F n) eIO (xG_ g dm I F n) 1 6) : xMl l yL_set cL_set 6 (some FieldType.int) [(0, 12, 15, 19), (0, 12, 19, 21)] (fr + 1) (8 + (6 + 11) + lo) g [.ref (ga g [0]), .int y0, .int y1, .int y2, .ref (ga g [30])] (xR g dm I F n) (some (.int 1)) (xG_ g dm I F n) 1 6 := by
  refine xMl.of (by decide) (Nat.le_of_ble_eq_true rfl) ?_
  intro P_ e_ s m_ bl_ mt_ cd_ ls hx hb hr hown hlocks hml htab hE hK hts hH hS hl hLs
  have hl : lv_has ls 6 [(0, .ref (ga g [0])), (1, .int y0), (2, .int y1), (3, .int y2), (4, .ref (ga g [30]))] := hl
  refine lv_aload hx hb dL_set_0 (lv_at hl 4 rfl) ?_
  refine lv_iconst (v := 0) hx hb dL_set_2 (by decide) ?_
  refine lv_aload_n hx hb dL_set_3 rfl (lv_at hl 0 rfl) ?_
  refine lv_iload_n hx hb dL_set_4 rfl (lv_at hl 1 rfl) ?_
  refine lv_iload_n hx hb dL_set_5 rfl (lv_at hl 2 rfl) ?_
  refine lv_iload_n hx hb dL_set_6 rfl (lv_at hl 3 rfl) ?_
  refine x_contT (x_VT hx hb hml hown hE hS hl.1 cyX6_set tw582 hT ⟨Nat.le_refl _, Nat.le_refl _⟩ ⟨Nat.le_of_eq (Nat.zero_add _), Nat.le_of_eq (Nat.zero_add _)⟩ (x_recv hK hH (id := [0]) hd0 (ci := 6) rfl (by decide) rfl) hH rfl rfl (Nat.le_of_ble_eq_true rfl) dL_set_7) hS (fun ce q9 H1 locs1 hp1 hS1 hce hcv hcl => ?_)
  refine x_catch hown hE htab [] ⟨0, 12, 15, 19⟩ [⟨0, 12, 19, 21⟩] rfl (fun z hz => absurd hz List.not_mem_nil) rfl (by decide) tw247 cfIO hce hcv hcl ?_
  refine lv_astore (lv' := [(5, .ref q9), (0, .ref (ga g [0])), (1, .int y0), (2, .int y1), (3, .int y2), (4, .ref (ga g [30]))]) hx hb dL_set_15 hl (by decide) rfl (fun ls hl => ?_)
  refine lv_iconst (v := 1) hx hb dL_set_17 (by decide) ?_
  refine W.widen (k := 1) (n := 6) (by omega) (by omega) ?_
  exact x_iret hx hb hr hlocks hS1 dL_set_18 rfl hp1

set_option maxHeartbeats 1000000 in
set_option maxRecDepth 100000 in
theorem w_set_eIA (l : Launch) (g : xG) (dm : List Nat → Prop) (I : xI) (F : xF) (n fr lo : Nat) (y0 y1 y2 : Int32) (hd0 : dm [0]) (hT : xTc l yX6_set (xws yX6_set cX6_set 6 (some FieldType.int)) fr lo g [.ref (ga g [0]), .int y0, .int y1, .int y2] (xR g dm I F n) eIA (xG_ g dm I F n) 1 6) : xMl l yL_set cL_set 6 (some FieldType.int) [(0, 12, 15, 19), (0, 12, 19, 21)] (fr + 1) (8 + (6 + 11) + lo) g [.ref (ga g [0]), .int y0, .int y1, .int y2, .ref (ga g [30])] (xR g dm I F n) (some (.int 2)) (xG_ g dm I F n) 1 6 := by
  refine xMl.of (by decide) (Nat.le_of_ble_eq_true rfl) ?_
  intro P_ e_ s m_ bl_ mt_ cd_ ls hx hb hr hown hlocks hml htab hE hK hts hH hS hl hLs
  have hl : lv_has ls 6 [(0, .ref (ga g [0])), (1, .int y0), (2, .int y1), (3, .int y2), (4, .ref (ga g [30]))] := hl
  refine lv_aload hx hb dL_set_0 (lv_at hl 4 rfl) ?_
  refine lv_iconst (v := 0) hx hb dL_set_2 (by decide) ?_
  refine lv_aload_n hx hb dL_set_3 rfl (lv_at hl 0 rfl) ?_
  refine lv_iload_n hx hb dL_set_4 rfl (lv_at hl 1 rfl) ?_
  refine lv_iload_n hx hb dL_set_5 rfl (lv_at hl 2 rfl) ?_
  refine lv_iload_n hx hb dL_set_6 rfl (lv_at hl 3 rfl) ?_
  refine x_contT (x_VT hx hb hml hown hE hS hl.1 cyX6_set tw582 hT ⟨Nat.le_refl _, Nat.le_refl _⟩ ⟨Nat.le_of_eq (Nat.zero_add _), Nat.le_of_eq (Nat.zero_add _)⟩ (x_recv hK hH (id := [0]) hd0 (ci := 6) rfl (by decide) rfl) hH rfl rfl (Nat.le_of_ble_eq_true rfl) dL_set_7) hS (fun ce q9 H1 locs1 hp1 hS1 hce hcv hcl => ?_)
  refine x_catch hown hE htab [⟨0, 12, 15, 19⟩] ⟨0, 12, 19, 21⟩ [] rfl (fun z hz => by simp only [List.mem_cons, List.not_mem_nil, or_false] at hz; rcases hz with rfl; exact ⟨by decide, _, tw247, hLs _ (List.mem_of_getElem? (i := 4) rfl)⟩) rfl (by decide) tw248 cfIA hce hcv hcl ?_
  refine lv_astore (lv' := [(5, .ref q9), (0, .ref (ga g [0])), (1, .int y0), (2, .int y1), (3, .int y2), (4, .ref (ga g [30]))]) hx hb dL_set_19 hl (by decide) rfl (fun ls hl => ?_)
  refine lv_iconst (v := 2) hx hb dL_set_21 (by decide) ?_
  refine W.widen (k := 1) (n := 6) (by omega) (by omega) ?_
  exact x_iret hx hb hr hlocks hS1 dL_set_22 rfl hp1

set_option maxHeartbeats 1000000 in
set_option maxRecDepth 100000 in
theorem w_event (l : Launch) (g : xG) (dm dm2 : List Nat → Prop) (I I2 : xI) (F F2 : xF) (n n2 fr lo mc ms : Nat) (y0 y1 : Int32) (v : Int32) (hd0 : dm [0]) (hd30 : dm2 [30]) (hM : xM l yX6_event (xws yX6_event cX6_event 4 (some FieldType.int)) fr lo g [.ref (ga g [0]), .int y0, .int y1] (xR g dm I F n) (some (.int v)) (xR g dm2 I2 F2 n2) mc ms) : xMl l yL_event cL_event 5 (some FieldType.int) [(0, 10, 13, 19), (0, 10, 17, 21)] (fr + 1) (8 + (4 + 11) + lo) g [.ref (ga g [0]), .int y0, .int y1, .ref (ga g [30])] (xR g dm I F n) (some (.int 0)) (xR g dm2 (up I2 [30] 0 v) F2 n2) mc ms := by
  refine xMl.of (by decide) (Nat.le_of_ble_eq_true rfl) ?_
  intro P_ e_ s m_ bl_ mt_ cd_ ls hx hb hr hown hlocks hml htab hE hK hts hH hS hl hLs
  have hl : lv_has ls 5 [(0, .ref (ga g [0])), (1, .int y0), (2, .int y1), (3, .ref (ga g [30]))] := hl
  refine lv_aload_n hx hb dL_event_0 rfl (lv_at hl 3 rfl) ?_
  refine lv_iconst (v := 0) hx hb dL_event_1 (by decide) ?_
  refine lv_aload_n hx hb dL_event_2 rfl (lv_at hl 0 rfl) ?_
  refine lv_iload_n hx hb dL_event_3 rfl (lv_at hl 1 rfl) ?_
  refine lv_iload_n hx hb dL_event_4 rfl (lv_at hl 2 rfl) ?_
  refine x_V1 hx hb hml hown hE hS hl.1 cyX6_event tw600 hM ⟨Nat.le_refl _, Nat.le_refl _⟩ ⟨Nat.le_of_eq (Nat.zero_add _), Nat.le_of_eq (Nat.zero_add _)⟩ (x_recv hK hH (id := [0]) hd0 (ci := 6) rfl (by decide) rfl) hH rfl rfl (Nat.le_of_ble_eq_true rfl) dL_event_5 (fun H locs hH hS => ?_)
  refine lv_i2l hx hb dL_event_8 rfl ?_
  refine x_last hx hb hK hH hS hd30 rfl dL_event_9 (fun H locs hH hS => ?_)
  refine lv_goto (tgt := 21) hx hb dL_event_10 (by decide) ?_
  refine lv_iconst (v := 0) hx hb dL_event_21 (by decide) ?_
  refine W.widen (k := mc) (n := ms) (by omega) (by omega) ?_
  exact x_iret hx hb hr hlocks hS dL_event_22 rfl hH

set_option maxHeartbeats 1000000 in
set_option maxRecDepth 100000 in
theorem w_event_eIO (l : Launch) (g : xG) (dm : List Nat → Prop) (I : xI) (F : xF) (n fr lo : Nat) (y0 y1 : Int32) (hd0 : dm [0]) (hT : xTc l yX6_event (xws yX6_event cX6_event 4 (some FieldType.int)) fr lo g [.ref (ga g [0]), .int y0, .int y1] (xR g dm I F n) eIO (xG_ g dm I F n) 1 6) : xMl l yL_event cL_event 5 (some FieldType.int) [(0, 10, 13, 19), (0, 10, 17, 21)] (fr + 1) (8 + (4 + 11) + lo) g [.ref (ga g [0]), .int y0, .int y1, .ref (ga g [30])] (xR g dm I F n) (some (.int 1)) (xG_ g dm I F n) 1 6 := by
  refine xMl.of (by decide) (Nat.le_of_ble_eq_true rfl) ?_
  intro P_ e_ s m_ bl_ mt_ cd_ ls hx hb hr hown hlocks hml htab hE hK hts hH hS hl hLs
  have hl : lv_has ls 5 [(0, .ref (ga g [0])), (1, .int y0), (2, .int y1), (3, .ref (ga g [30]))] := hl
  refine lv_aload_n hx hb dL_event_0 rfl (lv_at hl 3 rfl) ?_
  refine lv_iconst (v := 0) hx hb dL_event_1 (by decide) ?_
  refine lv_aload_n hx hb dL_event_2 rfl (lv_at hl 0 rfl) ?_
  refine lv_iload_n hx hb dL_event_3 rfl (lv_at hl 1 rfl) ?_
  refine lv_iload_n hx hb dL_event_4 rfl (lv_at hl 2 rfl) ?_
  refine x_contT (x_VT hx hb hml hown hE hS hl.1 cyX6_event tw600 hT ⟨Nat.le_refl _, Nat.le_refl _⟩ ⟨Nat.le_of_eq (Nat.zero_add _), Nat.le_of_eq (Nat.zero_add _)⟩ (x_recv hK hH (id := [0]) hd0 (ci := 6) rfl (by decide) rfl) hH rfl rfl (Nat.le_of_ble_eq_true rfl) dL_event_5) hS (fun ce q9 H1 locs1 hp1 hS1 hce hcv hcl => ?_)
  refine x_catch hown hE htab [] ⟨0, 10, 13, 19⟩ [⟨0, 10, 17, 21⟩] rfl (fun z hz => absurd hz List.not_mem_nil) rfl (by decide) tw247 cfIO hce hcv hcl ?_
  refine lv_astore (lv' := [(4, .ref q9), (0, .ref (ga g [0])), (1, .int y0), (2, .int y1), (3, .ref (ga g [30]))]) hx hb dL_event_13 hl (by decide) rfl (fun ls hl => ?_)
  refine lv_iconst (v := 1) hx hb dL_event_15 (by decide) ?_
  refine W.widen (k := 1) (n := 6) (by omega) (by omega) ?_
  exact x_iret hx hb hr hlocks hS1 dL_event_16 rfl hp1

set_option maxHeartbeats 1000000 in
set_option maxRecDepth 100000 in
theorem w_event_eIA (l : Launch) (g : xG) (dm : List Nat → Prop) (I : xI) (F : xF) (n fr lo : Nat) (y0 y1 : Int32) (hd0 : dm [0]) (hT : xTc l yX6_event (xws yX6_event cX6_event 4 (some FieldType.int)) fr lo g [.ref (ga g [0]), .int y0, .int y1] (xR g dm I F n) eIA (xG_ g dm I F n) 1 6) : xMl l yL_event cL_event 5 (some FieldType.int) [(0, 10, 13, 19), (0, 10, 17, 21)] (fr + 1) (8 + (4 + 11) + lo) g [.ref (ga g [0]), .int y0, .int y1, .ref (ga g [30])] (xR g dm I F n) (some (.int 2)) (xG_ g dm I F n) 1 6 := by
  refine xMl.of (by decide) (Nat.le_of_ble_eq_true rfl) ?_
  intro P_ e_ s m_ bl_ mt_ cd_ ls hx hb hr hown hlocks hml htab hE hK hts hH hS hl hLs
  have hl : lv_has ls 5 [(0, .ref (ga g [0])), (1, .int y0), (2, .int y1), (3, .ref (ga g [30]))] := hl
  refine lv_aload_n hx hb dL_event_0 rfl (lv_at hl 3 rfl) ?_
  refine lv_iconst (v := 0) hx hb dL_event_1 (by decide) ?_
  refine lv_aload_n hx hb dL_event_2 rfl (lv_at hl 0 rfl) ?_
  refine lv_iload_n hx hb dL_event_3 rfl (lv_at hl 1 rfl) ?_
  refine lv_iload_n hx hb dL_event_4 rfl (lv_at hl 2 rfl) ?_
  refine x_contT (x_VT hx hb hml hown hE hS hl.1 cyX6_event tw600 hT ⟨Nat.le_refl _, Nat.le_refl _⟩ ⟨Nat.le_of_eq (Nat.zero_add _), Nat.le_of_eq (Nat.zero_add _)⟩ (x_recv hK hH (id := [0]) hd0 (ci := 6) rfl (by decide) rfl) hH rfl rfl (Nat.le_of_ble_eq_true rfl) dL_event_5) hS (fun ce q9 H1 locs1 hp1 hS1 hce hcv hcl => ?_)
  refine x_catch hown hE htab [⟨0, 10, 13, 19⟩] ⟨0, 10, 17, 21⟩ [] rfl (fun z hz => by simp only [List.mem_cons, List.not_mem_nil, or_false] at hz; rcases hz with rfl; exact ⟨by decide, _, tw247, hLs _ (List.mem_of_getElem? (i := 4) rfl)⟩) rfl (by decide) tw248 cfIA hce hcv hcl ?_
  refine lv_astore (lv' := [(4, .ref q9), (0, .ref (ga g [0])), (1, .int y0), (2, .int y1), (3, .ref (ga g [30]))]) hx hb dL_event_17 hl (by decide) rfl (fun ls hl => ?_)
  refine lv_iconst (v := 2) hx hb dL_event_19 (by decide) ?_
  refine W.widen (k := 1) (n := 6) (by omega) (by omega) ?_
  exact x_iret hx hb hr hlocks hS1 dL_event_20 rfl hp1

set_option maxHeartbeats 1000000 in
set_option maxRecDepth 100000 in
theorem w_complete (l : Launch) (g : xG) (dm dm2 : List Nat → Prop) (I I2 : xI) (F F2 : xF) (n n2 fr lo mc ms : Nat) (y0 y1 : Int32) (v : Int32) (hd0 : dm [0]) (hd30 : dm2 [30]) (hM : xM l yX6_complete (xws yX6_complete cX6_complete 4 (some FieldType.int)) fr lo g [.ref (ga g [0]), .int y0, .int y1] (xR g dm I F n) (some (.int v)) (xR g dm2 I2 F2 n2) mc ms) : xMl l yL_complete cL_complete 5 (some FieldType.int) [(0, 10, 13, 19), (0, 10, 17, 30), (0, 10, 21, 13)] (fr + 1) (8 + (4 + 11) + lo) g [.ref (ga g [0]), .int y0, .int y1, .ref (ga g [30])] (xR g dm I F n) (some (.int 0)) (xR g dm2 (up I2 [30] 0 v) F2 n2) mc ms := by
  refine xMl.of (by decide) (Nat.le_of_ble_eq_true rfl) ?_
  intro P_ e_ s m_ bl_ mt_ cd_ ls hx hb hr hown hlocks hml htab hE hK hts hH hS hl hLs
  have hl : lv_has ls 5 [(0, .ref (ga g [0])), (1, .int y0), (2, .int y1), (3, .ref (ga g [30]))] := hl
  refine lv_aload_n hx hb dL_complete_0 rfl (lv_at hl 3 rfl) ?_
  refine lv_iconst (v := 0) hx hb dL_complete_1 (by decide) ?_
  refine lv_aload_n hx hb dL_complete_2 rfl (lv_at hl 0 rfl) ?_
  refine lv_iload_n hx hb dL_complete_3 rfl (lv_at hl 1 rfl) ?_
  refine lv_iload_n hx hb dL_complete_4 rfl (lv_at hl 2 rfl) ?_
  refine x_V1 hx hb hml hown hE hS hl.1 cyX6_complete tw616 hM ⟨Nat.le_refl _, Nat.le_refl _⟩ ⟨Nat.le_of_eq (Nat.zero_add _), Nat.le_of_eq (Nat.zero_add _)⟩ (x_recv hK hH (id := [0]) hd0 (ci := 6) rfl (by decide) rfl) hH rfl rfl (Nat.le_of_ble_eq_true rfl) dL_complete_5 (fun H locs hH hS => ?_)
  refine lv_i2l hx hb dL_complete_8 rfl ?_
  refine x_last hx hb hK hH hS hd30 rfl dL_complete_9 (fun H locs hH hS => ?_)
  refine lv_goto (tgt := 25) hx hb dL_complete_10 (by decide) ?_
  refine lv_iconst (v := 0) hx hb dL_complete_25 (by decide) ?_
  refine W.widen (k := mc) (n := ms) (by omega) (by omega) ?_
  exact x_iret hx hb hr hlocks hS dL_complete_26 rfl hH

set_option maxHeartbeats 1000000 in
set_option maxRecDepth 100000 in
theorem w_complete_eIO (l : Launch) (g : xG) (dm : List Nat → Prop) (I : xI) (F : xF) (n fr lo : Nat) (y0 y1 : Int32) (hd0 : dm [0]) (hT : xTc l yX6_complete (xws yX6_complete cX6_complete 4 (some FieldType.int)) fr lo g [.ref (ga g [0]), .int y0, .int y1] (xR g dm I F n) eIO (xG_ g dm I F n) 1 6) : xMl l yL_complete cL_complete 5 (some FieldType.int) [(0, 10, 13, 19), (0, 10, 17, 30), (0, 10, 21, 13)] (fr + 1) (8 + (4 + 11) + lo) g [.ref (ga g [0]), .int y0, .int y1, .ref (ga g [30])] (xR g dm I F n) (some (.int 1)) (xG_ g dm I F n) 1 6 := by
  refine xMl.of (by decide) (Nat.le_of_ble_eq_true rfl) ?_
  intro P_ e_ s m_ bl_ mt_ cd_ ls hx hb hr hown hlocks hml htab hE hK hts hH hS hl hLs
  have hl : lv_has ls 5 [(0, .ref (ga g [0])), (1, .int y0), (2, .int y1), (3, .ref (ga g [30]))] := hl
  refine lv_aload_n hx hb dL_complete_0 rfl (lv_at hl 3 rfl) ?_
  refine lv_iconst (v := 0) hx hb dL_complete_1 (by decide) ?_
  refine lv_aload_n hx hb dL_complete_2 rfl (lv_at hl 0 rfl) ?_
  refine lv_iload_n hx hb dL_complete_3 rfl (lv_at hl 1 rfl) ?_
  refine lv_iload_n hx hb dL_complete_4 rfl (lv_at hl 2 rfl) ?_
  refine x_contT (x_VT hx hb hml hown hE hS hl.1 cyX6_complete tw616 hT ⟨Nat.le_refl _, Nat.le_refl _⟩ ⟨Nat.le_of_eq (Nat.zero_add _), Nat.le_of_eq (Nat.zero_add _)⟩ (x_recv hK hH (id := [0]) hd0 (ci := 6) rfl (by decide) rfl) hH rfl rfl (Nat.le_of_ble_eq_true rfl) dL_complete_5) hS (fun ce q9 H1 locs1 hp1 hS1 hce hcv hcl => ?_)
  refine x_catch hown hE htab [] ⟨0, 10, 13, 19⟩ [⟨0, 10, 17, 30⟩, ⟨0, 10, 21, 13⟩] rfl (fun z hz => absurd hz List.not_mem_nil) rfl (by decide) tw247 cfIO hce hcv hcl ?_
  refine lv_astore (lv' := [(4, .ref q9), (0, .ref (ga g [0])), (1, .int y0), (2, .int y1), (3, .ref (ga g [30]))]) hx hb dL_complete_13 hl (by decide) rfl (fun ls hl => ?_)
  refine lv_iconst (v := 1) hx hb dL_complete_15 (by decide) ?_
  refine W.widen (k := 1) (n := 6) (by omega) (by omega) ?_
  exact x_iret hx hb hr hlocks hS1 dL_complete_16 rfl hp1

set_option maxHeartbeats 1000000 in
set_option maxRecDepth 100000 in
theorem w_complete_eUO (l : Launch) (g : xG) (dm : List Nat → Prop) (I : xI) (F : xF) (n fr lo : Nat) (y0 y1 : Int32) (hd0 : dm [0]) (hT : xTc l yX6_complete (xws yX6_complete cX6_complete 4 (some FieldType.int)) fr lo g [.ref (ga g [0]), .int y0, .int y1] (xR g dm I F n) eUO (xG_ g dm I F n) 1 6) : xMl l yL_complete cL_complete 5 (some FieldType.int) [(0, 10, 13, 19), (0, 10, 17, 30), (0, 10, 21, 13)] (fr + 1) (8 + (4 + 11) + lo) g [.ref (ga g [0]), .int y0, .int y1, .ref (ga g [30])] (xR g dm I F n) (some (.int 2)) (xG_ g dm I F n) 1 6 := by
  refine xMl.of (by decide) (Nat.le_of_ble_eq_true rfl) ?_
  intro P_ e_ s m_ bl_ mt_ cd_ ls hx hb hr hown hlocks hml htab hE hK hts hH hS hl hLs
  have hl : lv_has ls 5 [(0, .ref (ga g [0])), (1, .int y0), (2, .int y1), (3, .ref (ga g [30]))] := hl
  refine lv_aload_n hx hb dL_complete_0 rfl (lv_at hl 3 rfl) ?_
  refine lv_iconst (v := 0) hx hb dL_complete_1 (by decide) ?_
  refine lv_aload_n hx hb dL_complete_2 rfl (lv_at hl 0 rfl) ?_
  refine lv_iload_n hx hb dL_complete_3 rfl (lv_at hl 1 rfl) ?_
  refine lv_iload_n hx hb dL_complete_4 rfl (lv_at hl 2 rfl) ?_
  refine x_contT (x_VT hx hb hml hown hE hS hl.1 cyX6_complete tw616 hT ⟨Nat.le_refl _, Nat.le_refl _⟩ ⟨Nat.le_of_eq (Nat.zero_add _), Nat.le_of_eq (Nat.zero_add _)⟩ (x_recv hK hH (id := [0]) hd0 (ci := 6) rfl (by decide) rfl) hH rfl rfl (Nat.le_of_ble_eq_true rfl) dL_complete_5) hS (fun ce q9 H1 locs1 hp1 hS1 hce hcv hcl => ?_)
  refine x_catch hown hE htab [⟨0, 10, 13, 19⟩] ⟨0, 10, 17, 30⟩ [⟨0, 10, 21, 13⟩] rfl (fun z hz => by simp only [List.mem_cons, List.not_mem_nil, or_false] at hz; rcases hz with rfl; exact ⟨by decide, _, tw247, hLs _ (List.mem_of_getElem? (i := 5) rfl)⟩) rfl (by decide) tw428 cfUO hce hcv hcl ?_
  refine lv_astore (lv' := [(4, .ref q9), (0, .ref (ga g [0])), (1, .int y0), (2, .int y1), (3, .ref (ga g [30]))]) hx hb dL_complete_17 hl (by decide) rfl (fun ls hl => ?_)
  refine lv_iconst (v := 2) hx hb dL_complete_19 (by decide) ?_
  refine W.widen (k := 1) (n := 6) (by omega) (by omega) ?_
  exact x_iret hx hb hr hlocks hS1 dL_complete_20 rfl hp1

set_option maxHeartbeats 1000000 in
set_option maxRecDepth 100000 in
theorem w_complete_eIS (l : Launch) (g : xG) (dm : List Nat → Prop) (I : xI) (F : xF) (n fr lo : Nat) (y0 y1 : Int32) (hd0 : dm [0]) (hT : xTc l yX6_complete (xws yX6_complete cX6_complete 4 (some FieldType.int)) fr lo g [.ref (ga g [0]), .int y0, .int y1] (xR g dm I F n) eIS (xG_ g dm I F n) 1 6) : xMl l yL_complete cL_complete 5 (some FieldType.int) [(0, 10, 13, 19), (0, 10, 17, 30), (0, 10, 21, 13)] (fr + 1) (8 + (4 + 11) + lo) g [.ref (ga g [0]), .int y0, .int y1, .ref (ga g [30])] (xR g dm I F n) (some (.int 3)) (xG_ g dm I F n) 1 6 := by
  refine xMl.of (by decide) (Nat.le_of_ble_eq_true rfl) ?_
  intro P_ e_ s m_ bl_ mt_ cd_ ls hx hb hr hown hlocks hml htab hE hK hts hH hS hl hLs
  have hl : lv_has ls 5 [(0, .ref (ga g [0])), (1, .int y0), (2, .int y1), (3, .ref (ga g [30]))] := hl
  refine lv_aload_n hx hb dL_complete_0 rfl (lv_at hl 3 rfl) ?_
  refine lv_iconst (v := 0) hx hb dL_complete_1 (by decide) ?_
  refine lv_aload_n hx hb dL_complete_2 rfl (lv_at hl 0 rfl) ?_
  refine lv_iload_n hx hb dL_complete_3 rfl (lv_at hl 1 rfl) ?_
  refine lv_iload_n hx hb dL_complete_4 rfl (lv_at hl 2 rfl) ?_
  refine x_contT (x_VT hx hb hml hown hE hS hl.1 cyX6_complete tw616 hT ⟨Nat.le_refl _, Nat.le_refl _⟩ ⟨Nat.le_of_eq (Nat.zero_add _), Nat.le_of_eq (Nat.zero_add _)⟩ (x_recv hK hH (id := [0]) hd0 (ci := 6) rfl (by decide) rfl) hH rfl rfl (Nat.le_of_ble_eq_true rfl) dL_complete_5) hS (fun ce q9 H1 locs1 hp1 hS1 hce hcv hcl => ?_)
  refine x_catch hown hE htab [⟨0, 10, 13, 19⟩, ⟨0, 10, 17, 30⟩] ⟨0, 10, 21, 13⟩ [] rfl (fun z hz => by simp only [List.mem_cons, List.not_mem_nil, or_false] at hz; rcases hz with rfl | rfl <;> first | exact ⟨by decide, _, tw247, hLs _ (List.mem_of_getElem? (i := 3) rfl)⟩ | exact ⟨by decide, _, tw428, hLs _ (List.mem_of_getElem? (i := 9) rfl)⟩) rfl (by decide) tw169 cfIS hce hcv hcl ?_
  refine lv_astore (lv' := [(4, .ref q9), (0, .ref (ga g [0])), (1, .int y0), (2, .int y1), (3, .ref (ga g [30]))]) hx hb dL_complete_21 hl (by decide) rfl (fun ls hl => ?_)
  refine lv_iconst (v := 3) hx hb dL_complete_23 (by decide) ?_
  refine W.widen (k := 1) (n := 6) (by omega) (by omega) ?_
  exact x_iret hx hb hr hlocks hS1 dL_complete_24 rfl hp1

set_option maxHeartbeats 1000000 in
set_option maxRecDepth 100000 in
theorem w_setWaiting (l : Launch) (g : xG) (dm dm2 : List Nat → Prop) (I I2 : xI) (F F2 : xF) (n n2 fr lo mc ms : Nat) (y0 y1 : Int32) (v : Int32) (hv : sBo v) (hd0 : dm [0]) (hd30 : dm2 [30]) (hM : xM l yX6_setWaiting (xws yX6_setWaiting cX6_setWaiting 5 (some FieldType.boolean)) fr lo g [.ref (ga g [0]), .int y0, .int y1] (xR g dm I F n) (some (.int v)) (xR g dm2 I2 F2 n2) mc ms) : xMl l yL_setWaiting cL_setWaiting 5 (some FieldType.int) [(0, 17, 20, 19)] (fr + 1) (8 + (5 + 11) + lo) g [.ref (ga g [0]), .int y0, .int y1, .ref (ga g [30])] (xR g dm I F n) (some (.int 0)) (xR g dm2 (up I2 [30] 0 v) F2 n2) mc ms := by
  refine xMl.of (by decide) (Nat.le_of_ble_eq_true rfl) ?_
  intro P_ e_ s m_ bl_ mt_ cd_ ls hx hb hr hown hlocks hml htab hE hK hts hH hS hl hLs
  have hl : lv_has ls 5 [(0, .ref (ga g [0])), (1, .int y0), (2, .int y1), (3, .ref (ga g [30]))] := hl
  refine lv_aload_n hx hb dL_setWaiting_0 rfl (lv_at hl 3 rfl) ?_
  refine lv_iconst (v := 0) hx hb dL_setWaiting_1 (by decide) ?_
  refine lv_aload_n hx hb dL_setWaiting_2 rfl (lv_at hl 0 rfl) ?_
  refine lv_iload_n hx hb dL_setWaiting_3 rfl (lv_at hl 1 rfl) ?_
  refine lv_iload_n hx hb dL_setWaiting_4 rfl (lv_at hl 2 rfl) ?_
  refine x_V1 hx hb hml hown hE hS hl.1 cyX6_setWaiting tw625 hM ⟨Nat.le_refl _, Nat.le_refl _⟩ ⟨Nat.le_of_eq (Nat.zero_add _), Nat.le_of_eq (Nat.zero_add _)⟩ (x_recv hK hH (id := [0]) hd0 (ci := 6) rfl (by decide) rfl) hH rfl rfl (Nat.le_of_ble_eq_true rfl) dL_setWaiting_5 (fun H locs hH hS => ?_)
  rcases hv with hv | hv
  · skip
    refine lv_if_eq (tgt := 15) hx hb dL_setWaiting_8 (by decide) (fun _ => ?_) (fun q_ => absurd hv q_)
    refine lv_lconst (v := 0) hx hb dL_setWaiting_15 (by decide) ?_
    refine x_last hx hb hK hH hS hd30 (show (0 : Int64) = v.toInt64 by rw [hv]; rfl) dL_setWaiting_16 (fun H locs hH hS => ?_)
    refine lv_goto (tgt := 24) hx hb dL_setWaiting_17 (by decide) ?_
    refine lv_iconst (v := 0) hx hb dL_setWaiting_24 (by decide) ?_
    refine W.widen (k := mc) (n := ms) (by omega) (by omega) ?_
    exact x_iret hx hb hr hlocks hS dL_setWaiting_25 rfl hH
  · skip
    refine lv_if_eq (tgt := 15) hx hb dL_setWaiting_8 (by decide) (fun q_ => absurd q_ (by rw [hv]; decide)) (fun _ => ?_)
    refine lv_lconst (v := 1) hx hb dL_setWaiting_11 (by decide) ?_
    refine lv_goto (tgt := 16) hx hb dL_setWaiting_12 (by decide) ?_
    refine x_last hx hb hK hH hS hd30 (show (1 : Int64) = v.toInt64 by rw [hv]; rfl) dL_setWaiting_16 (fun H locs hH hS => ?_)
    refine lv_goto (tgt := 24) hx hb dL_setWaiting_17 (by decide) ?_
    refine lv_iconst (v := 0) hx hb dL_setWaiting_24 (by decide) ?_
    refine W.widen (k := mc) (n := ms) (by omega) (by omega) ?_
    exact x_iret hx hb hr hlocks hS dL_setWaiting_25 rfl hH

set_option maxHeartbeats 1000000 in
set_option maxRecDepth 100000 in
theorem w_setWaiting_eIO (l : Launch) (g : xG) (dm : List Nat → Prop) (I : xI) (F : xF) (n fr lo : Nat) (y0 y1 : Int32) (hd0 : dm [0]) (hT : xTc l yX6_setWaiting (xws yX6_setWaiting cX6_setWaiting 5 (some FieldType.boolean)) fr lo g [.ref (ga g [0]), .int y0, .int y1] (xR g dm I F n) eIO (xG_ g dm I F n) 1 6) : xMl l yL_setWaiting cL_setWaiting 5 (some FieldType.int) [(0, 17, 20, 19)] (fr + 1) (8 + (5 + 11) + lo) g [.ref (ga g [0]), .int y0, .int y1, .ref (ga g [30])] (xR g dm I F n) (some (.int 1)) (xG_ g dm I F n) 1 6 := by
  refine xMl.of (by decide) (Nat.le_of_ble_eq_true rfl) ?_
  intro P_ e_ s m_ bl_ mt_ cd_ ls hx hb hr hown hlocks hml htab hE hK hts hH hS hl hLs
  have hl : lv_has ls 5 [(0, .ref (ga g [0])), (1, .int y0), (2, .int y1), (3, .ref (ga g [30]))] := hl
  refine lv_aload_n hx hb dL_setWaiting_0 rfl (lv_at hl 3 rfl) ?_
  refine lv_iconst (v := 0) hx hb dL_setWaiting_1 (by decide) ?_
  refine lv_aload_n hx hb dL_setWaiting_2 rfl (lv_at hl 0 rfl) ?_
  refine lv_iload_n hx hb dL_setWaiting_3 rfl (lv_at hl 1 rfl) ?_
  refine lv_iload_n hx hb dL_setWaiting_4 rfl (lv_at hl 2 rfl) ?_
  refine x_contT (x_VT hx hb hml hown hE hS hl.1 cyX6_setWaiting tw625 hT ⟨Nat.le_refl _, Nat.le_refl _⟩ ⟨Nat.le_of_eq (Nat.zero_add _), Nat.le_of_eq (Nat.zero_add _)⟩ (x_recv hK hH (id := [0]) hd0 (ci := 6) rfl (by decide) rfl) hH rfl rfl (Nat.le_of_ble_eq_true rfl) dL_setWaiting_5) hS (fun ce q9 H1 locs1 hp1 hS1 hce hcv hcl => ?_)
  refine x_catch hown hE htab [] ⟨0, 17, 20, 19⟩ [] rfl (fun z hz => absurd hz List.not_mem_nil) rfl (by decide) tw247 cfIO hce hcv hcl ?_
  refine lv_astore (lv' := [(4, .ref q9), (0, .ref (ga g [0])), (1, .int y0), (2, .int y1), (3, .ref (ga g [30]))]) hx hb dL_setWaiting_20 hl (by decide) rfl (fun ls hl => ?_)
  refine lv_iconst (v := 1) hx hb dL_setWaiting_22 (by decide) ?_
  refine W.widen (k := 1) (n := 6) (by omega) (by omega) ?_
  exact x_iret hx hb hr hlocks hS1 dL_setWaiting_23 rfl hp1

set_option maxHeartbeats 1000000 in
set_option maxRecDepth 100000 in
theorem w_move (l : Launch) (g : xG) (dm dm2 : List Nat → Prop) (I I2 : xI) (F F2 : xF) (n n2 fr lo mc ms : Nat) (y0 y1 : Int32) (v : Int32) (hd0 : dm [0]) (hd30 : dm2 [30]) (hM : xM l yX6_move (xws yX6_move cX6_move 6 (some FieldType.int)) fr lo g [.ref (ga g [0]), .int y0, .int y1] (xR g dm I F n) (some (.int v)) (xR g dm2 I2 F2 n2) mc ms) : xMl l yL_move cL_move 5 (some FieldType.int) [(0, 10, 13, 19), (0, 10, 17, 21)] (fr + 1) (8 + (6 + 11) + lo) g [.ref (ga g [0]), .int y0, .int y1, .ref (ga g [30])] (xR g dm I F n) (some (.int 0)) (xR g dm2 (up I2 [30] 0 v) F2 n2) mc ms := by
  refine xMl.of (by decide) (Nat.le_of_ble_eq_true rfl) ?_
  intro P_ e_ s m_ bl_ mt_ cd_ ls hx hb hr hown hlocks hml htab hE hK hts hH hS hl hLs
  have hl : lv_has ls 5 [(0, .ref (ga g [0])), (1, .int y0), (2, .int y1), (3, .ref (ga g [30]))] := hl
  refine lv_aload_n hx hb dL_move_0 rfl (lv_at hl 3 rfl) ?_
  refine lv_iconst (v := 0) hx hb dL_move_1 (by decide) ?_
  refine lv_aload_n hx hb dL_move_2 rfl (lv_at hl 0 rfl) ?_
  refine lv_iload_n hx hb dL_move_3 rfl (lv_at hl 1 rfl) ?_
  refine lv_iload_n hx hb dL_move_4 rfl (lv_at hl 2 rfl) ?_
  refine x_V1 hx hb hml hown hE hS hl.1 cyX6_move tw632 hM ⟨Nat.le_refl _, Nat.le_refl _⟩ ⟨Nat.le_of_eq (Nat.zero_add _), Nat.le_of_eq (Nat.zero_add _)⟩ (x_recv hK hH (id := [0]) hd0 (ci := 6) rfl (by decide) rfl) hH rfl rfl (Nat.le_of_ble_eq_true rfl) dL_move_5 (fun H locs hH hS => ?_)
  refine lv_i2l hx hb dL_move_8 rfl ?_
  refine x_last hx hb hK hH hS hd30 rfl dL_move_9 (fun H locs hH hS => ?_)
  refine lv_goto (tgt := 21) hx hb dL_move_10 (by decide) ?_
  refine lv_iconst (v := 0) hx hb dL_move_21 (by decide) ?_
  refine W.widen (k := mc) (n := ms) (by omega) (by omega) ?_
  exact x_iret hx hb hr hlocks hS dL_move_22 rfl hH

set_option maxHeartbeats 1000000 in
set_option maxRecDepth 100000 in
theorem w_move_eIO (l : Launch) (g : xG) (dm : List Nat → Prop) (I : xI) (F : xF) (n fr lo : Nat) (y0 y1 : Int32) (hd0 : dm [0]) (hT : xTc l yX6_move (xws yX6_move cX6_move 6 (some FieldType.int)) fr lo g [.ref (ga g [0]), .int y0, .int y1] (xR g dm I F n) eIO (xG_ g dm I F n) 1 6) : xMl l yL_move cL_move 5 (some FieldType.int) [(0, 10, 13, 19), (0, 10, 17, 21)] (fr + 1) (8 + (6 + 11) + lo) g [.ref (ga g [0]), .int y0, .int y1, .ref (ga g [30])] (xR g dm I F n) (some (.int 1)) (xG_ g dm I F n) 1 6 := by
  refine xMl.of (by decide) (Nat.le_of_ble_eq_true rfl) ?_
  intro P_ e_ s m_ bl_ mt_ cd_ ls hx hb hr hown hlocks hml htab hE hK hts hH hS hl hLs
  have hl : lv_has ls 5 [(0, .ref (ga g [0])), (1, .int y0), (2, .int y1), (3, .ref (ga g [30]))] := hl
  refine lv_aload_n hx hb dL_move_0 rfl (lv_at hl 3 rfl) ?_
  refine lv_iconst (v := 0) hx hb dL_move_1 (by decide) ?_
  refine lv_aload_n hx hb dL_move_2 rfl (lv_at hl 0 rfl) ?_
  refine lv_iload_n hx hb dL_move_3 rfl (lv_at hl 1 rfl) ?_
  refine lv_iload_n hx hb dL_move_4 rfl (lv_at hl 2 rfl) ?_
  refine x_contT (x_VT hx hb hml hown hE hS hl.1 cyX6_move tw632 hT ⟨Nat.le_refl _, Nat.le_refl _⟩ ⟨Nat.le_of_eq (Nat.zero_add _), Nat.le_of_eq (Nat.zero_add _)⟩ (x_recv hK hH (id := [0]) hd0 (ci := 6) rfl (by decide) rfl) hH rfl rfl (Nat.le_of_ble_eq_true rfl) dL_move_5) hS (fun ce q9 H1 locs1 hp1 hS1 hce hcv hcl => ?_)
  refine x_catch hown hE htab [] ⟨0, 10, 13, 19⟩ [⟨0, 10, 17, 21⟩] rfl (fun z hz => absurd hz List.not_mem_nil) rfl (by decide) tw247 cfIO hce hcv hcl ?_
  refine lv_astore (lv' := [(4, .ref q9), (0, .ref (ga g [0])), (1, .int y0), (2, .int y1), (3, .ref (ga g [30]))]) hx hb dL_move_13 hl (by decide) rfl (fun ls hl => ?_)
  refine lv_iconst (v := 1) hx hb dL_move_15 (by decide) ?_
  refine W.widen (k := 1) (n := 6) (by omega) (by omega) ?_
  exact x_iret hx hb hr hlocks hS1 dL_move_16 rfl hp1

set_option maxHeartbeats 1000000 in
set_option maxRecDepth 100000 in
theorem w_move_eIA (l : Launch) (g : xG) (dm : List Nat → Prop) (I : xI) (F : xF) (n fr lo : Nat) (y0 y1 : Int32) (hd0 : dm [0]) (hT : xTc l yX6_move (xws yX6_move cX6_move 6 (some FieldType.int)) fr lo g [.ref (ga g [0]), .int y0, .int y1] (xR g dm I F n) eIA (xG_ g dm I F n) 1 6) : xMl l yL_move cL_move 5 (some FieldType.int) [(0, 10, 13, 19), (0, 10, 17, 21)] (fr + 1) (8 + (6 + 11) + lo) g [.ref (ga g [0]), .int y0, .int y1, .ref (ga g [30])] (xR g dm I F n) (some (.int 2)) (xG_ g dm I F n) 1 6 := by
  refine xMl.of (by decide) (Nat.le_of_ble_eq_true rfl) ?_
  intro P_ e_ s m_ bl_ mt_ cd_ ls hx hb hr hown hlocks hml htab hE hK hts hH hS hl hLs
  have hl : lv_has ls 5 [(0, .ref (ga g [0])), (1, .int y0), (2, .int y1), (3, .ref (ga g [30]))] := hl
  refine lv_aload_n hx hb dL_move_0 rfl (lv_at hl 3 rfl) ?_
  refine lv_iconst (v := 0) hx hb dL_move_1 (by decide) ?_
  refine lv_aload_n hx hb dL_move_2 rfl (lv_at hl 0 rfl) ?_
  refine lv_iload_n hx hb dL_move_3 rfl (lv_at hl 1 rfl) ?_
  refine lv_iload_n hx hb dL_move_4 rfl (lv_at hl 2 rfl) ?_
  refine x_contT (x_VT hx hb hml hown hE hS hl.1 cyX6_move tw632 hT ⟨Nat.le_refl _, Nat.le_refl _⟩ ⟨Nat.le_of_eq (Nat.zero_add _), Nat.le_of_eq (Nat.zero_add _)⟩ (x_recv hK hH (id := [0]) hd0 (ci := 6) rfl (by decide) rfl) hH rfl rfl (Nat.le_of_ble_eq_true rfl) dL_move_5) hS (fun ce q9 H1 locs1 hp1 hS1 hce hcv hcl => ?_)
  refine x_catch hown hE htab [⟨0, 10, 13, 19⟩] ⟨0, 10, 17, 21⟩ [] rfl (fun z hz => by simp only [List.mem_cons, List.not_mem_nil, or_false] at hz; rcases hz with rfl; exact ⟨by decide, _, tw247, hLs _ (List.mem_of_getElem? (i := 4) rfl)⟩) rfl (by decide) tw248 cfIA hce hcv hcl ?_
  refine lv_astore (lv' := [(4, .ref q9), (0, .ref (ga g [0])), (1, .int y0), (2, .int y1), (3, .ref (ga g [30]))]) hx hb dL_move_17 hl (by decide) rfl (fun ls hl => ?_)
  refine lv_iconst (v := 2) hx hb dL_move_19 (by decide) ?_
  refine W.widen (k := 1) (n := 6) (by omega) (by omega) ?_
  exact x_iret hx hb hr hlocks hS1 dL_move_20 rfl hp1

set_option maxHeartbeats 1000000 in
set_option maxRecDepth 100000 in
theorem w_pass (l : Launch) (g : xG) (dm dm2 : List Nat → Prop) (I I2 : xI) (F F2 : xF) (n n2 fr lo mc ms : Nat) (y0 : Int32) (v : Int32) (hd0 : dm [0]) (hd30 : dm2 [30]) (hM : xM l yX6_pass (xws yX6_pass cX6_pass 4 (some FieldType.int)) fr lo g [.ref (ga g [0]), .int y0] (xR g dm I F n) (some (.int v)) (xR g dm2 I2 F2 n2) mc ms) : xMl l yL_pass cL_pass 4 (some FieldType.int) [(0, 9, 12, 21)] (fr + 1) (8 + (4 + 11) + lo) g [.ref (ga g [0]), .int y0, .ref (ga g [30])] (xR g dm I F n) (some (.int 0)) (xR g dm2 (up I2 [30] 0 v) F2 n2) mc ms := by
  refine xMl.of (by decide) (Nat.le_of_ble_eq_true rfl) ?_
  intro P_ e_ s m_ bl_ mt_ cd_ ls hx hb hr hown hlocks hml htab hE hK hts hH hS hl hLs
  have hl : lv_has ls 4 [(0, .ref (ga g [0])), (1, .int y0), (2, .ref (ga g [30]))] := hl
  refine lv_aload_n hx hb dL_pass_0 rfl (lv_at hl 2 rfl) ?_
  refine lv_iconst (v := 0) hx hb dL_pass_1 (by decide) ?_
  refine lv_aload_n hx hb dL_pass_2 rfl (lv_at hl 0 rfl) ?_
  refine lv_iload_n hx hb dL_pass_3 rfl (lv_at hl 1 rfl) ?_
  refine x_V1 hx hb hml hown hE hS hl.1 cyX6_pass tw640 hM ⟨Nat.le_refl _, Nat.le_refl _⟩ ⟨Nat.le_of_eq (Nat.zero_add _), Nat.le_of_eq (Nat.zero_add _)⟩ (x_recv hK hH (id := [0]) hd0 (ci := 6) rfl (by decide) rfl) hH rfl rfl (Nat.le_of_ble_eq_true rfl) dL_pass_4 (fun H locs hH hS => ?_)
  refine lv_i2l hx hb dL_pass_7 rfl ?_
  refine x_last hx hb hK hH hS hd30 rfl dL_pass_8 (fun H locs hH hS => ?_)
  refine lv_goto (tgt := 15) hx hb dL_pass_9 (by decide) ?_
  refine lv_iconst (v := 0) hx hb dL_pass_15 (by decide) ?_
  refine W.widen (k := mc) (n := ms) (by omega) (by omega) ?_
  exact x_iret hx hb hr hlocks hS dL_pass_16 rfl hH

set_option maxHeartbeats 1000000 in
set_option maxRecDepth 100000 in
theorem w_pass_eIA (l : Launch) (g : xG) (dm : List Nat → Prop) (I : xI) (F : xF) (n fr lo : Nat) (y0 : Int32) (hd0 : dm [0]) (hT : xTc l yX6_pass (xws yX6_pass cX6_pass 4 (some FieldType.int)) fr lo g [.ref (ga g [0]), .int y0] (xR g dm I F n) eIA (xG_ g dm I F n) 1 6) : xMl l yL_pass cL_pass 4 (some FieldType.int) [(0, 9, 12, 21)] (fr + 1) (8 + (4 + 11) + lo) g [.ref (ga g [0]), .int y0, .ref (ga g [30])] (xR g dm I F n) (some (.int 1)) (xG_ g dm I F n) 1 6 := by
  refine xMl.of (by decide) (Nat.le_of_ble_eq_true rfl) ?_
  intro P_ e_ s m_ bl_ mt_ cd_ ls hx hb hr hown hlocks hml htab hE hK hts hH hS hl hLs
  have hl : lv_has ls 4 [(0, .ref (ga g [0])), (1, .int y0), (2, .ref (ga g [30]))] := hl
  refine lv_aload_n hx hb dL_pass_0 rfl (lv_at hl 2 rfl) ?_
  refine lv_iconst (v := 0) hx hb dL_pass_1 (by decide) ?_
  refine lv_aload_n hx hb dL_pass_2 rfl (lv_at hl 0 rfl) ?_
  refine lv_iload_n hx hb dL_pass_3 rfl (lv_at hl 1 rfl) ?_
  refine x_contT (x_VT hx hb hml hown hE hS hl.1 cyX6_pass tw640 hT ⟨Nat.le_refl _, Nat.le_refl _⟩ ⟨Nat.le_of_eq (Nat.zero_add _), Nat.le_of_eq (Nat.zero_add _)⟩ (x_recv hK hH (id := [0]) hd0 (ci := 6) rfl (by decide) rfl) hH rfl rfl (Nat.le_of_ble_eq_true rfl) dL_pass_4) hS (fun ce q9 H1 locs1 hp1 hS1 hce hcv hcl => ?_)
  refine x_catch hown hE htab [] ⟨0, 9, 12, 21⟩ [] rfl (fun z hz => absurd hz List.not_mem_nil) rfl (by decide) tw248 cfIA hce hcv hcl ?_
  refine lv_astore_n (lv' := [(3, .ref q9), (0, .ref (ga g [0])), (1, .int y0), (2, .ref (ga g [30]))]) hx hb dL_pass_12 rfl hl (by decide) rfl (fun ls hl => ?_)
  refine lv_iconst (v := 1) hx hb dL_pass_13 (by decide) ?_
  refine W.widen (k := 1) (n := 6) (by omega) (by omega) ?_
  exact x_iret hx hb hr hlocks hS1 dL_pass_14 rfl hp1

set_option maxHeartbeats 1000000 in
set_option maxRecDepth 100000 in
theorem w_state (l : Launch) (g : xG) (dm dm2 : List Nat → Prop) (I I2 : xI) (F F2 : xF) (n n2 fr lo mc ms : Nat) (y0 y1 : Int32) (v : Int32) (hd0 : dm [0]) (hd30 : dm2 [30]) (hM : xM l yX6_state (xws yX6_state cX6_state 3 (some FieldType.char)) fr lo g [.ref (ga g [0]), .int y0, .int y1] (xR g dm I F n) (some (.int v)) (xR g dm2 I2 F2 n2) mc ms) : xMl l yL_state cL_state 5 (some FieldType.int) [(0, 10, 13, 19)] (fr + 1) (8 + (3 + 11) + lo) g [.ref (ga g [0]), .int y0, .int y1, .ref (ga g [30])] (xR g dm I F n) (some (.int 0)) (xR g dm2 (up I2 [30] 0 v) F2 n2) mc ms := by
  refine xMl.of (by decide) (Nat.le_of_ble_eq_true rfl) ?_
  intro P_ e_ s m_ bl_ mt_ cd_ ls hx hb hr hown hlocks hml htab hE hK hts hH hS hl hLs
  have hl : lv_has ls 5 [(0, .ref (ga g [0])), (1, .int y0), (2, .int y1), (3, .ref (ga g [30]))] := hl
  refine lv_aload_n hx hb dL_state_0 rfl (lv_at hl 3 rfl) ?_
  refine lv_iconst (v := 0) hx hb dL_state_1 (by decide) ?_
  refine lv_aload_n hx hb dL_state_2 rfl (lv_at hl 0 rfl) ?_
  refine lv_iload_n hx hb dL_state_3 rfl (lv_at hl 1 rfl) ?_
  refine lv_iload_n hx hb dL_state_4 rfl (lv_at hl 2 rfl) ?_
  refine x_V1 hx hb hml hown hE hS hl.1 cyX6_state tw660 hM ⟨Nat.le_refl _, Nat.le_refl _⟩ ⟨Nat.le_of_eq (Nat.zero_add _), Nat.le_of_eq (Nat.zero_add _)⟩ (x_recv hK hH (id := [0]) hd0 (ci := 6) rfl (by decide) rfl) hH rfl rfl (Nat.le_of_ble_eq_true rfl) dL_state_5 (fun H locs hH hS => ?_)
  refine lv_i2l hx hb dL_state_8 rfl ?_
  refine x_last hx hb hK hH hS hd30 rfl dL_state_9 (fun H locs hH hS => ?_)
  refine lv_goto (tgt := 17) hx hb dL_state_10 (by decide) ?_
  refine lv_iconst (v := 0) hx hb dL_state_17 (by decide) ?_
  refine W.widen (k := mc) (n := ms) (by omega) (by omega) ?_
  exact x_iret hx hb hr hlocks hS dL_state_18 rfl hH

set_option maxHeartbeats 1000000 in
set_option maxRecDepth 100000 in
theorem w_state_eIO (l : Launch) (g : xG) (dm : List Nat → Prop) (I : xI) (F : xF) (n fr lo : Nat) (y0 y1 : Int32) (hd0 : dm [0]) (hT : xTc l yX6_state (xws yX6_state cX6_state 3 (some FieldType.char)) fr lo g [.ref (ga g [0]), .int y0, .int y1] (xR g dm I F n) eIO (xG_ g dm I F n) 1 6) : xMl l yL_state cL_state 5 (some FieldType.int) [(0, 10, 13, 19)] (fr + 1) (8 + (3 + 11) + lo) g [.ref (ga g [0]), .int y0, .int y1, .ref (ga g [30])] (xR g dm I F n) (some (.int 1)) (xG_ g dm I F n) 1 6 := by
  refine xMl.of (by decide) (Nat.le_of_ble_eq_true rfl) ?_
  intro P_ e_ s m_ bl_ mt_ cd_ ls hx hb hr hown hlocks hml htab hE hK hts hH hS hl hLs
  have hl : lv_has ls 5 [(0, .ref (ga g [0])), (1, .int y0), (2, .int y1), (3, .ref (ga g [30]))] := hl
  refine lv_aload_n hx hb dL_state_0 rfl (lv_at hl 3 rfl) ?_
  refine lv_iconst (v := 0) hx hb dL_state_1 (by decide) ?_
  refine lv_aload_n hx hb dL_state_2 rfl (lv_at hl 0 rfl) ?_
  refine lv_iload_n hx hb dL_state_3 rfl (lv_at hl 1 rfl) ?_
  refine lv_iload_n hx hb dL_state_4 rfl (lv_at hl 2 rfl) ?_
  refine x_contT (x_VT hx hb hml hown hE hS hl.1 cyX6_state tw660 hT ⟨Nat.le_refl _, Nat.le_refl _⟩ ⟨Nat.le_of_eq (Nat.zero_add _), Nat.le_of_eq (Nat.zero_add _)⟩ (x_recv hK hH (id := [0]) hd0 (ci := 6) rfl (by decide) rfl) hH rfl rfl (Nat.le_of_ble_eq_true rfl) dL_state_5) hS (fun ce q9 H1 locs1 hp1 hS1 hce hcv hcl => ?_)
  refine x_catch hown hE htab [] ⟨0, 10, 13, 19⟩ [] rfl (fun z hz => absurd hz List.not_mem_nil) rfl (by decide) tw247 cfIO hce hcv hcl ?_
  refine lv_astore (lv' := [(4, .ref q9), (0, .ref (ga g [0])), (1, .int y0), (2, .int y1), (3, .ref (ga g [30]))]) hx hb dL_state_13 hl (by decide) rfl (fun ls hl => ?_)
  refine lv_iconst (v := 1) hx hb dL_state_15 (by decide) ?_
  refine W.widen (k := 1) (n := 6) (by omega) (by omega) ?_
  exact x_iret hx hb hr hlocks hS1 dL_state_16 rfl hp1

set_option maxHeartbeats 1000000 in
set_option maxRecDepth 100000 in
theorem w_stateByReplay (l : Launch) (g : xG) (dm dm2 : List Nat → Prop) (I I2 : xI) (F F2 : xF) (n n2 fr lo mc ms : Nat) (y0 y1 : Int32) (v : Int32) (hd0 : dm [0]) (hd30 : dm2 [30]) (hM : xM l yX6_stateByReplay (xws yX6_stateByReplay cX6_stateByReplay 3 (some FieldType.char)) fr lo g [.ref (ga g [0]), .int y0, .int y1] (xR g dm I F n) (some (.int v)) (xR g dm2 I2 F2 n2) mc ms) : xMl l yL_stateByReplay cL_stateByReplay 5 (some FieldType.int) [(0, 10, 13, 19)] (fr + 1) (8 + (3 + 11) + lo) g [.ref (ga g [0]), .int y0, .int y1, .ref (ga g [30])] (xR g dm I F n) (some (.int 0)) (xR g dm2 (up I2 [30] 0 v) F2 n2) mc ms := by
  refine xMl.of (by decide) (Nat.le_of_ble_eq_true rfl) ?_
  intro P_ e_ s m_ bl_ mt_ cd_ ls hx hb hr hown hlocks hml htab hE hK hts hH hS hl hLs
  have hl : lv_has ls 5 [(0, .ref (ga g [0])), (1, .int y0), (2, .int y1), (3, .ref (ga g [30]))] := hl
  refine lv_aload_n hx hb dL_stateByReplay_0 rfl (lv_at hl 3 rfl) ?_
  refine lv_iconst (v := 0) hx hb dL_stateByReplay_1 (by decide) ?_
  refine lv_aload_n hx hb dL_stateByReplay_2 rfl (lv_at hl 0 rfl) ?_
  refine lv_iload_n hx hb dL_stateByReplay_3 rfl (lv_at hl 1 rfl) ?_
  refine lv_iload_n hx hb dL_stateByReplay_4 rfl (lv_at hl 2 rfl) ?_
  refine x_V1 hx hb hml hown hE hS hl.1 cyX6_stateByReplay tw671 hM ⟨Nat.le_refl _, Nat.le_refl _⟩ ⟨Nat.le_of_eq (Nat.zero_add _), Nat.le_of_eq (Nat.zero_add _)⟩ (x_recv hK hH (id := [0]) hd0 (ci := 6) rfl (by decide) rfl) hH rfl rfl (Nat.le_of_ble_eq_true rfl) dL_stateByReplay_5 (fun H locs hH hS => ?_)
  refine lv_i2l hx hb dL_stateByReplay_8 rfl ?_
  refine x_last hx hb hK hH hS hd30 rfl dL_stateByReplay_9 (fun H locs hH hS => ?_)
  refine lv_goto (tgt := 17) hx hb dL_stateByReplay_10 (by decide) ?_
  refine lv_iconst (v := 0) hx hb dL_stateByReplay_17 (by decide) ?_
  refine W.widen (k := mc) (n := ms) (by omega) (by omega) ?_
  exact x_iret hx hb hr hlocks hS dL_stateByReplay_18 rfl hH

set_option maxHeartbeats 1000000 in
set_option maxRecDepth 100000 in
theorem w_stateByReplay_eIO (l : Launch) (g : xG) (dm : List Nat → Prop) (I : xI) (F : xF) (n fr lo : Nat) (y0 y1 : Int32) (hd0 : dm [0]) (hT : xTc l yX6_stateByReplay (xws yX6_stateByReplay cX6_stateByReplay 3 (some FieldType.char)) fr lo g [.ref (ga g [0]), .int y0, .int y1] (xR g dm I F n) eIO (xG_ g dm I F n) 1 6) : xMl l yL_stateByReplay cL_stateByReplay 5 (some FieldType.int) [(0, 10, 13, 19)] (fr + 1) (8 + (3 + 11) + lo) g [.ref (ga g [0]), .int y0, .int y1, .ref (ga g [30])] (xR g dm I F n) (some (.int 1)) (xG_ g dm I F n) 1 6 := by
  refine xMl.of (by decide) (Nat.le_of_ble_eq_true rfl) ?_
  intro P_ e_ s m_ bl_ mt_ cd_ ls hx hb hr hown hlocks hml htab hE hK hts hH hS hl hLs
  have hl : lv_has ls 5 [(0, .ref (ga g [0])), (1, .int y0), (2, .int y1), (3, .ref (ga g [30]))] := hl
  refine lv_aload_n hx hb dL_stateByReplay_0 rfl (lv_at hl 3 rfl) ?_
  refine lv_iconst (v := 0) hx hb dL_stateByReplay_1 (by decide) ?_
  refine lv_aload_n hx hb dL_stateByReplay_2 rfl (lv_at hl 0 rfl) ?_
  refine lv_iload_n hx hb dL_stateByReplay_3 rfl (lv_at hl 1 rfl) ?_
  refine lv_iload_n hx hb dL_stateByReplay_4 rfl (lv_at hl 2 rfl) ?_
  refine x_contT (x_VT hx hb hml hown hE hS hl.1 cyX6_stateByReplay tw671 hT ⟨Nat.le_refl _, Nat.le_refl _⟩ ⟨Nat.le_of_eq (Nat.zero_add _), Nat.le_of_eq (Nat.zero_add _)⟩ (x_recv hK hH (id := [0]) hd0 (ci := 6) rfl (by decide) rfl) hH rfl rfl (Nat.le_of_ble_eq_true rfl) dL_stateByReplay_5) hS (fun ce q9 H1 locs1 hp1 hS1 hce hcv hcl => ?_)
  refine x_catch hown hE htab [] ⟨0, 10, 13, 19⟩ [] rfl (fun z hz => absurd hz List.not_mem_nil) rfl (by decide) tw247 cfIO hce hcv hcl ?_
  refine lv_astore (lv' := [(4, .ref q9), (0, .ref (ga g [0])), (1, .int y0), (2, .int y1), (3, .ref (ga g [30]))]) hx hb dL_stateByReplay_13 hl (by decide) rfl (fun ls hl => ?_)
  refine lv_iconst (v := 1) hx hb dL_stateByReplay_15 (by decide) ?_
  refine W.widen (k := 1) (n := 6) (by omega) (by omega) ?_
  exact x_iret hx hb hr hlocks hS1 dL_stateByReplay_16 rfl hp1

set_option maxHeartbeats 1000000 in
set_option maxRecDepth 100000 in
theorem w_clock (l : Launch) (g : xG) (dm dm2 : List Nat → Prop) (I I2 : xI) (F F2 : xF) (n n2 fr lo mc ms : Nat) (y0 y1 : Int32) (v : Int32) (hd0 : dm [0]) (hd30 : dm2 [30]) (hM : xM l yX6_clock (xws yX6_clock cX6_clock 3 (some FieldType.int)) fr lo g [.ref (ga g [0]), .int y0, .int y1] (xR g dm I F n) (some (.int v)) (xR g dm2 I2 F2 n2) mc ms) : xMl l yL_clock cL_clock 5 (some FieldType.int) [(0, 10, 13, 19)] (fr + 1) (8 + (3 + 11) + lo) g [.ref (ga g [0]), .int y0, .int y1, .ref (ga g [30])] (xR g dm I F n) (some (.int 0)) (xR g dm2 (up I2 [30] 0 v) F2 n2) mc ms := by
  refine xMl.of (by decide) (Nat.le_of_ble_eq_true rfl) ?_
  intro P_ e_ s m_ bl_ mt_ cd_ ls hx hb hr hown hlocks hml htab hE hK hts hH hS hl hLs
  have hl : lv_has ls 5 [(0, .ref (ga g [0])), (1, .int y0), (2, .int y1), (3, .ref (ga g [30]))] := hl
  refine lv_aload_n hx hb dL_clock_0 rfl (lv_at hl 3 rfl) ?_
  refine lv_iconst (v := 0) hx hb dL_clock_1 (by decide) ?_
  refine lv_aload_n hx hb dL_clock_2 rfl (lv_at hl 0 rfl) ?_
  refine lv_iload_n hx hb dL_clock_3 rfl (lv_at hl 1 rfl) ?_
  refine lv_iload_n hx hb dL_clock_4 rfl (lv_at hl 2 rfl) ?_
  refine x_V1 hx hb hml hown hE hS hl.1 cyX6_clock tw682 hM ⟨Nat.le_refl _, Nat.le_refl _⟩ ⟨Nat.le_of_eq (Nat.zero_add _), Nat.le_of_eq (Nat.zero_add _)⟩ (x_recv hK hH (id := [0]) hd0 (ci := 6) rfl (by decide) rfl) hH rfl rfl (Nat.le_of_ble_eq_true rfl) dL_clock_5 (fun H locs hH hS => ?_)
  refine lv_i2l hx hb dL_clock_8 rfl ?_
  refine x_last hx hb hK hH hS hd30 rfl dL_clock_9 (fun H locs hH hS => ?_)
  refine lv_goto (tgt := 17) hx hb dL_clock_10 (by decide) ?_
  refine lv_iconst (v := 0) hx hb dL_clock_17 (by decide) ?_
  refine W.widen (k := mc) (n := ms) (by omega) (by omega) ?_
  exact x_iret hx hb hr hlocks hS dL_clock_18 rfl hH

set_option maxHeartbeats 1000000 in
set_option maxRecDepth 100000 in
theorem w_clock_eIO (l : Launch) (g : xG) (dm : List Nat → Prop) (I : xI) (F : xF) (n fr lo : Nat) (y0 y1 : Int32) (hd0 : dm [0]) (hT : xTc l yX6_clock (xws yX6_clock cX6_clock 3 (some FieldType.int)) fr lo g [.ref (ga g [0]), .int y0, .int y1] (xR g dm I F n) eIO (xG_ g dm I F n) 1 6) : xMl l yL_clock cL_clock 5 (some FieldType.int) [(0, 10, 13, 19)] (fr + 1) (8 + (3 + 11) + lo) g [.ref (ga g [0]), .int y0, .int y1, .ref (ga g [30])] (xR g dm I F n) (some (.int 1)) (xG_ g dm I F n) 1 6 := by
  refine xMl.of (by decide) (Nat.le_of_ble_eq_true rfl) ?_
  intro P_ e_ s m_ bl_ mt_ cd_ ls hx hb hr hown hlocks hml htab hE hK hts hH hS hl hLs
  have hl : lv_has ls 5 [(0, .ref (ga g [0])), (1, .int y0), (2, .int y1), (3, .ref (ga g [30]))] := hl
  refine lv_aload_n hx hb dL_clock_0 rfl (lv_at hl 3 rfl) ?_
  refine lv_iconst (v := 0) hx hb dL_clock_1 (by decide) ?_
  refine lv_aload_n hx hb dL_clock_2 rfl (lv_at hl 0 rfl) ?_
  refine lv_iload_n hx hb dL_clock_3 rfl (lv_at hl 1 rfl) ?_
  refine lv_iload_n hx hb dL_clock_4 rfl (lv_at hl 2 rfl) ?_
  refine x_contT (x_VT hx hb hml hown hE hS hl.1 cyX6_clock tw682 hT ⟨Nat.le_refl _, Nat.le_refl _⟩ ⟨Nat.le_of_eq (Nat.zero_add _), Nat.le_of_eq (Nat.zero_add _)⟩ (x_recv hK hH (id := [0]) hd0 (ci := 6) rfl (by decide) rfl) hH rfl rfl (Nat.le_of_ble_eq_true rfl) dL_clock_5) hS (fun ce q9 H1 locs1 hp1 hS1 hce hcv hcl => ?_)
  refine x_catch hown hE htab [] ⟨0, 10, 13, 19⟩ [] rfl (fun z hz => absurd hz List.not_mem_nil) rfl (by decide) tw247 cfIO hce hcv hcl ?_
  refine lv_astore (lv' := [(4, .ref q9), (0, .ref (ga g [0])), (1, .int y0), (2, .int y1), (3, .ref (ga g [30]))]) hx hb dL_clock_13 hl (by decide) rfl (fun ls hl => ?_)
  refine lv_iconst (v := 1) hx hb dL_clock_15 (by decide) ?_
  refine W.widen (k := 1) (n := 6) (by omega) (by omega) ?_
  exact x_iret hx hb hr hlocks hS1 dL_clock_16 rfl hp1

set_option maxHeartbeats 1000000 in
set_option maxRecDepth 100000 in
theorem w_clockByReplay (l : Launch) (g : xG) (dm dm2 : List Nat → Prop) (I I2 : xI) (F F2 : xF) (n n2 fr lo mc ms : Nat) (y0 y1 : Int32) (v : Int32) (hd0 : dm [0]) (hd30 : dm2 [30]) (hM : xM l yX6_clockByReplay (xws yX6_clockByReplay cX6_clockByReplay 3 (some FieldType.int)) fr lo g [.ref (ga g [0]), .int y0, .int y1] (xR g dm I F n) (some (.int v)) (xR g dm2 I2 F2 n2) mc ms) : xMl l yL_clockByReplay cL_clockByReplay 5 (some FieldType.int) [(0, 10, 13, 19)] (fr + 1) (8 + (3 + 11) + lo) g [.ref (ga g [0]), .int y0, .int y1, .ref (ga g [30])] (xR g dm I F n) (some (.int 0)) (xR g dm2 (up I2 [30] 0 v) F2 n2) mc ms := by
  refine xMl.of (by decide) (Nat.le_of_ble_eq_true rfl) ?_
  intro P_ e_ s m_ bl_ mt_ cd_ ls hx hb hr hown hlocks hml htab hE hK hts hH hS hl hLs
  have hl : lv_has ls 5 [(0, .ref (ga g [0])), (1, .int y0), (2, .int y1), (3, .ref (ga g [30]))] := hl
  refine lv_aload_n hx hb dL_clockByReplay_0 rfl (lv_at hl 3 rfl) ?_
  refine lv_iconst (v := 0) hx hb dL_clockByReplay_1 (by decide) ?_
  refine lv_aload_n hx hb dL_clockByReplay_2 rfl (lv_at hl 0 rfl) ?_
  refine lv_iload_n hx hb dL_clockByReplay_3 rfl (lv_at hl 1 rfl) ?_
  refine lv_iload_n hx hb dL_clockByReplay_4 rfl (lv_at hl 2 rfl) ?_
  refine x_V1 hx hb hml hown hE hS hl.1 cyX6_clockByReplay tw690 hM ⟨Nat.le_refl _, Nat.le_refl _⟩ ⟨Nat.le_of_eq (Nat.zero_add _), Nat.le_of_eq (Nat.zero_add _)⟩ (x_recv hK hH (id := [0]) hd0 (ci := 6) rfl (by decide) rfl) hH rfl rfl (Nat.le_of_ble_eq_true rfl) dL_clockByReplay_5 (fun H locs hH hS => ?_)
  refine lv_i2l hx hb dL_clockByReplay_8 rfl ?_
  refine x_last hx hb hK hH hS hd30 rfl dL_clockByReplay_9 (fun H locs hH hS => ?_)
  refine lv_goto (tgt := 17) hx hb dL_clockByReplay_10 (by decide) ?_
  refine lv_iconst (v := 0) hx hb dL_clockByReplay_17 (by decide) ?_
  refine W.widen (k := mc) (n := ms) (by omega) (by omega) ?_
  exact x_iret hx hb hr hlocks hS dL_clockByReplay_18 rfl hH

set_option maxHeartbeats 1000000 in
set_option maxRecDepth 100000 in
theorem w_clockByReplay_eIO (l : Launch) (g : xG) (dm : List Nat → Prop) (I : xI) (F : xF) (n fr lo : Nat) (y0 y1 : Int32) (hd0 : dm [0]) (hT : xTc l yX6_clockByReplay (xws yX6_clockByReplay cX6_clockByReplay 3 (some FieldType.int)) fr lo g [.ref (ga g [0]), .int y0, .int y1] (xR g dm I F n) eIO (xG_ g dm I F n) 1 6) : xMl l yL_clockByReplay cL_clockByReplay 5 (some FieldType.int) [(0, 10, 13, 19)] (fr + 1) (8 + (3 + 11) + lo) g [.ref (ga g [0]), .int y0, .int y1, .ref (ga g [30])] (xR g dm I F n) (some (.int 1)) (xG_ g dm I F n) 1 6 := by
  refine xMl.of (by decide) (Nat.le_of_ble_eq_true rfl) ?_
  intro P_ e_ s m_ bl_ mt_ cd_ ls hx hb hr hown hlocks hml htab hE hK hts hH hS hl hLs
  have hl : lv_has ls 5 [(0, .ref (ga g [0])), (1, .int y0), (2, .int y1), (3, .ref (ga g [30]))] := hl
  refine lv_aload_n hx hb dL_clockByReplay_0 rfl (lv_at hl 3 rfl) ?_
  refine lv_iconst (v := 0) hx hb dL_clockByReplay_1 (by decide) ?_
  refine lv_aload_n hx hb dL_clockByReplay_2 rfl (lv_at hl 0 rfl) ?_
  refine lv_iload_n hx hb dL_clockByReplay_3 rfl (lv_at hl 1 rfl) ?_
  refine lv_iload_n hx hb dL_clockByReplay_4 rfl (lv_at hl 2 rfl) ?_
  refine x_contT (x_VT hx hb hml hown hE hS hl.1 cyX6_clockByReplay tw690 hT ⟨Nat.le_refl _, Nat.le_refl _⟩ ⟨Nat.le_of_eq (Nat.zero_add _), Nat.le_of_eq (Nat.zero_add _)⟩ (x_recv hK hH (id := [0]) hd0 (ci := 6) rfl (by decide) rfl) hH rfl rfl (Nat.le_of_ble_eq_true rfl) dL_clockByReplay_5) hS (fun ce q9 H1 locs1 hp1 hS1 hce hcv hcl => ?_)
  refine x_catch hown hE htab [] ⟨0, 10, 13, 19⟩ [] rfl (fun z hz => absurd hz List.not_mem_nil) rfl (by decide) tw247 cfIO hce hcv hcl ?_
  refine lv_astore (lv' := [(4, .ref q9), (0, .ref (ga g [0])), (1, .int y0), (2, .int y1), (3, .ref (ga g [30]))]) hx hb dL_clockByReplay_13 hl (by decide) rfl (fun ls hl => ?_)
  refine lv_iconst (v := 1) hx hb dL_clockByReplay_15 (by decide) ?_
  refine W.widen (k := 1) (n := 6) (by omega) (by omega) ?_
  exact x_iret hx hb hr hlocks hS1 dL_clockByReplay_16 rfl hp1

set_option maxHeartbeats 1000000 in
set_option maxRecDepth 100000 in
theorem w_count (l : Launch) (g : xG) (dm dm2 : List Nat → Prop) (I I2 : xI) (F F2 : xF) (n n2 fr lo mc ms : Nat) (y0 y1 : Int32) (v : Int32) (hd0 : dm [0]) (hd30 : dm2 [30]) (hM : xM l yX6_count (xws yX6_count cX6_count 3 (some FieldType.int)) fr lo g [.ref (ga g [0]), .int y0, .int y1] (xR g dm I F n) (some (.int v)) (xR g dm2 I2 F2 n2) mc ms) : xMl l yL_count cL_count 5 (some FieldType.int) [(0, 10, 13, 19)] (fr + 1) (8 + (3 + 11) + lo) g [.ref (ga g [0]), .int y0, .int y1, .ref (ga g [30])] (xR g dm I F n) (some (.int 0)) (xR g dm2 (up I2 [30] 0 v) F2 n2) mc ms := by
  refine xMl.of (by decide) (Nat.le_of_ble_eq_true rfl) ?_
  intro P_ e_ s m_ bl_ mt_ cd_ ls hx hb hr hown hlocks hml htab hE hK hts hH hS hl hLs
  have hl : lv_has ls 5 [(0, .ref (ga g [0])), (1, .int y0), (2, .int y1), (3, .ref (ga g [30]))] := hl
  refine lv_aload_n hx hb dL_count_0 rfl (lv_at hl 3 rfl) ?_
  refine lv_iconst (v := 0) hx hb dL_count_1 (by decide) ?_
  refine lv_aload_n hx hb dL_count_2 rfl (lv_at hl 0 rfl) ?_
  refine lv_iload_n hx hb dL_count_3 rfl (lv_at hl 1 rfl) ?_
  refine lv_iload_n hx hb dL_count_4 rfl (lv_at hl 2 rfl) ?_
  refine x_V1 hx hb hml hown hE hS hl.1 cyX6_count tw697 hM ⟨Nat.le_refl _, Nat.le_refl _⟩ ⟨Nat.le_of_eq (Nat.zero_add _), Nat.le_of_eq (Nat.zero_add _)⟩ (x_recv hK hH (id := [0]) hd0 (ci := 6) rfl (by decide) rfl) hH rfl rfl (Nat.le_of_ble_eq_true rfl) dL_count_5 (fun H locs hH hS => ?_)
  refine lv_i2l hx hb dL_count_8 rfl ?_
  refine x_last hx hb hK hH hS hd30 rfl dL_count_9 (fun H locs hH hS => ?_)
  refine lv_goto (tgt := 17) hx hb dL_count_10 (by decide) ?_
  refine lv_iconst (v := 0) hx hb dL_count_17 (by decide) ?_
  refine W.widen (k := mc) (n := ms) (by omega) (by omega) ?_
  exact x_iret hx hb hr hlocks hS dL_count_18 rfl hH

set_option maxHeartbeats 1000000 in
set_option maxRecDepth 100000 in
theorem w_count_eIO (l : Launch) (g : xG) (dm : List Nat → Prop) (I : xI) (F : xF) (n fr lo : Nat) (y0 y1 : Int32) (hd0 : dm [0]) (hT : xTc l yX6_count (xws yX6_count cX6_count 3 (some FieldType.int)) fr lo g [.ref (ga g [0]), .int y0, .int y1] (xR g dm I F n) eIO (xG_ g dm I F n) 1 6) : xMl l yL_count cL_count 5 (some FieldType.int) [(0, 10, 13, 19)] (fr + 1) (8 + (3 + 11) + lo) g [.ref (ga g [0]), .int y0, .int y1, .ref (ga g [30])] (xR g dm I F n) (some (.int 1)) (xG_ g dm I F n) 1 6 := by
  refine xMl.of (by decide) (Nat.le_of_ble_eq_true rfl) ?_
  intro P_ e_ s m_ bl_ mt_ cd_ ls hx hb hr hown hlocks hml htab hE hK hts hH hS hl hLs
  have hl : lv_has ls 5 [(0, .ref (ga g [0])), (1, .int y0), (2, .int y1), (3, .ref (ga g [30]))] := hl
  refine lv_aload_n hx hb dL_count_0 rfl (lv_at hl 3 rfl) ?_
  refine lv_iconst (v := 0) hx hb dL_count_1 (by decide) ?_
  refine lv_aload_n hx hb dL_count_2 rfl (lv_at hl 0 rfl) ?_
  refine lv_iload_n hx hb dL_count_3 rfl (lv_at hl 1 rfl) ?_
  refine lv_iload_n hx hb dL_count_4 rfl (lv_at hl 2 rfl) ?_
  refine x_contT (x_VT hx hb hml hown hE hS hl.1 cyX6_count tw697 hT ⟨Nat.le_refl _, Nat.le_refl _⟩ ⟨Nat.le_of_eq (Nat.zero_add _), Nat.le_of_eq (Nat.zero_add _)⟩ (x_recv hK hH (id := [0]) hd0 (ci := 6) rfl (by decide) rfl) hH rfl rfl (Nat.le_of_ble_eq_true rfl) dL_count_5) hS (fun ce q9 H1 locs1 hp1 hS1 hce hcv hcl => ?_)
  refine x_catch hown hE htab [] ⟨0, 10, 13, 19⟩ [] rfl (fun z hz => absurd hz List.not_mem_nil) rfl (by decide) tw247 cfIO hce hcv hcl ?_
  refine lv_astore (lv' := [(4, .ref q9), (0, .ref (ga g [0])), (1, .int y0), (2, .int y1), (3, .ref (ga g [30]))]) hx hb dL_count_13 hl (by decide) rfl (fun ls hl => ?_)
  refine lv_iconst (v := 1) hx hb dL_count_15 (by decide) ?_
  refine W.widen (k := 1) (n := 6) (by omega) (by omega) ?_
  exact x_iret hx hb hr hlocks hS1 dL_count_16 rfl hp1

set_option maxHeartbeats 1000000 in
set_option maxRecDepth 100000 in
theorem w_isLate (l : Launch) (g : xG) (dm dm2 : List Nat → Prop) (I I2 : xI) (F F2 : xF) (n n2 fr lo mc ms : Nat) (y0 y1 : Int32) (v : Int32) (hv : sBo v) (hd0 : dm [0]) (hd30 : dm2 [30]) (hM : xM l yX6_isLate (xws yX6_isLate cX6_isLate 4 (some FieldType.boolean)) fr lo g [.ref (ga g [0]), .int y0, .int y1] (xR g dm I F n) (some (.int v)) (xR g dm2 I2 F2 n2) mc ms) : xMl l yL_isLate cL_isLate 5 (some FieldType.int) [(0, 17, 20, 19)] (fr + 1) (8 + (4 + 11) + lo) g [.ref (ga g [0]), .int y0, .int y1, .ref (ga g [30])] (xR g dm I F n) (some (.int 0)) (xR g dm2 (up I2 [30] 0 v) F2 n2) mc ms := by
  refine xMl.of (by decide) (Nat.le_of_ble_eq_true rfl) ?_
  intro P_ e_ s m_ bl_ mt_ cd_ ls hx hb hr hown hlocks hml htab hE hK hts hH hS hl hLs
  have hl : lv_has ls 5 [(0, .ref (ga g [0])), (1, .int y0), (2, .int y1), (3, .ref (ga g [30]))] := hl
  refine lv_aload_n hx hb dL_isLate_0 rfl (lv_at hl 3 rfl) ?_
  refine lv_iconst (v := 0) hx hb dL_isLate_1 (by decide) ?_
  refine lv_aload_n hx hb dL_isLate_2 rfl (lv_at hl 0 rfl) ?_
  refine lv_iload_n hx hb dL_isLate_3 rfl (lv_at hl 1 rfl) ?_
  refine lv_iload_n hx hb dL_isLate_4 rfl (lv_at hl 2 rfl) ?_
  refine x_V1 hx hb hml hown hE hS hl.1 cyX6_isLate tw708 hM ⟨Nat.le_refl _, Nat.le_refl _⟩ ⟨Nat.le_of_eq (Nat.zero_add _), Nat.le_of_eq (Nat.zero_add _)⟩ (x_recv hK hH (id := [0]) hd0 (ci := 6) rfl (by decide) rfl) hH rfl rfl (Nat.le_of_ble_eq_true rfl) dL_isLate_5 (fun H locs hH hS => ?_)
  rcases hv with hv | hv
  · skip
    refine lv_if_eq (tgt := 15) hx hb dL_isLate_8 (by decide) (fun _ => ?_) (fun q_ => absurd hv q_)
    refine lv_lconst (v := 0) hx hb dL_isLate_15 (by decide) ?_
    refine x_last hx hb hK hH hS hd30 (show (0 : Int64) = v.toInt64 by rw [hv]; rfl) dL_isLate_16 (fun H locs hH hS => ?_)
    refine lv_goto (tgt := 24) hx hb dL_isLate_17 (by decide) ?_
    refine lv_iconst (v := 0) hx hb dL_isLate_24 (by decide) ?_
    refine W.widen (k := mc) (n := ms) (by omega) (by omega) ?_
    exact x_iret hx hb hr hlocks hS dL_isLate_25 rfl hH
  · skip
    refine lv_if_eq (tgt := 15) hx hb dL_isLate_8 (by decide) (fun q_ => absurd q_ (by rw [hv]; decide)) (fun _ => ?_)
    refine lv_lconst (v := 1) hx hb dL_isLate_11 (by decide) ?_
    refine lv_goto (tgt := 16) hx hb dL_isLate_12 (by decide) ?_
    refine x_last hx hb hK hH hS hd30 (show (1 : Int64) = v.toInt64 by rw [hv]; rfl) dL_isLate_16 (fun H locs hH hS => ?_)
    refine lv_goto (tgt := 24) hx hb dL_isLate_17 (by decide) ?_
    refine lv_iconst (v := 0) hx hb dL_isLate_24 (by decide) ?_
    refine W.widen (k := mc) (n := ms) (by omega) (by omega) ?_
    exact x_iret hx hb hr hlocks hS dL_isLate_25 rfl hH

set_option maxHeartbeats 1000000 in
set_option maxRecDepth 100000 in
theorem w_isLate_eIO (l : Launch) (g : xG) (dm : List Nat → Prop) (I : xI) (F : xF) (n fr lo : Nat) (y0 y1 : Int32) (hd0 : dm [0]) (hT : xTc l yX6_isLate (xws yX6_isLate cX6_isLate 4 (some FieldType.boolean)) fr lo g [.ref (ga g [0]), .int y0, .int y1] (xR g dm I F n) eIO (xG_ g dm I F n) 1 6) : xMl l yL_isLate cL_isLate 5 (some FieldType.int) [(0, 17, 20, 19)] (fr + 1) (8 + (4 + 11) + lo) g [.ref (ga g [0]), .int y0, .int y1, .ref (ga g [30])] (xR g dm I F n) (some (.int 1)) (xG_ g dm I F n) 1 6 := by
  refine xMl.of (by decide) (Nat.le_of_ble_eq_true rfl) ?_
  intro P_ e_ s m_ bl_ mt_ cd_ ls hx hb hr hown hlocks hml htab hE hK hts hH hS hl hLs
  have hl : lv_has ls 5 [(0, .ref (ga g [0])), (1, .int y0), (2, .int y1), (3, .ref (ga g [30]))] := hl
  refine lv_aload_n hx hb dL_isLate_0 rfl (lv_at hl 3 rfl) ?_
  refine lv_iconst (v := 0) hx hb dL_isLate_1 (by decide) ?_
  refine lv_aload_n hx hb dL_isLate_2 rfl (lv_at hl 0 rfl) ?_
  refine lv_iload_n hx hb dL_isLate_3 rfl (lv_at hl 1 rfl) ?_
  refine lv_iload_n hx hb dL_isLate_4 rfl (lv_at hl 2 rfl) ?_
  refine x_contT (x_VT hx hb hml hown hE hS hl.1 cyX6_isLate tw708 hT ⟨Nat.le_refl _, Nat.le_refl _⟩ ⟨Nat.le_of_eq (Nat.zero_add _), Nat.le_of_eq (Nat.zero_add _)⟩ (x_recv hK hH (id := [0]) hd0 (ci := 6) rfl (by decide) rfl) hH rfl rfl (Nat.le_of_ble_eq_true rfl) dL_isLate_5) hS (fun ce q9 H1 locs1 hp1 hS1 hce hcv hcl => ?_)
  refine x_catch hown hE htab [] ⟨0, 17, 20, 19⟩ [] rfl (fun z hz => absurd hz List.not_mem_nil) rfl (by decide) tw247 cfIO hce hcv hcl ?_
  refine lv_astore (lv' := [(4, .ref q9), (0, .ref (ga g [0])), (1, .int y0), (2, .int y1), (3, .ref (ga g [30]))]) hx hb dL_isLate_20 hl (by decide) rfl (fun ls hl => ?_)
  refine lv_iconst (v := 1) hx hb dL_isLate_22 (by decide) ?_
  refine W.widen (k := 1) (n := 6) (by omega) (by omega) ?_
  exact x_iret hx hb hr hlocks hS1 dL_isLate_23 rfl hp1

set_option maxHeartbeats 1000000 in
set_option maxRecDepth 100000 in
theorem w_daysLeft (l : Launch) (g : xG) (dm dm2 : List Nat → Prop) (I I2 : xI) (F F2 : xF) (n n2 fr lo mc ms : Nat) (y0 : Int32) (v : Int32) (hd0 : dm [0]) (hd30 : dm2 [30]) (hM : xM l yX6_daysLeft (xws yX6_daysLeft cX6_daysLeft 3 (some FieldType.int)) fr lo g [.ref (ga g [0]), .int y0] (xR g dm I F n) (some (.int v)) (xR g dm2 I2 F2 n2) mc ms) : xMl l yL_daysLeft cL_daysLeft 4 (some FieldType.int) [(0, 9, 12, 19), (0, 9, 15, 97)] (fr + 1) (8 + (3 + 11) + lo) g [.ref (ga g [0]), .int y0, .ref (ga g [30])] (xR g dm I F n) (some (.int 0)) (xR g dm2 (up I2 [30] 0 v) F2 n2) mc ms := by
  refine xMl.of (by decide) (Nat.le_of_ble_eq_true rfl) ?_
  intro P_ e_ s m_ bl_ mt_ cd_ ls hx hb hr hown hlocks hml htab hE hK hts hH hS hl hLs
  have hl : lv_has ls 4 [(0, .ref (ga g [0])), (1, .int y0), (2, .ref (ga g [30]))] := hl
  refine lv_aload_n hx hb dL_daysLeft_0 rfl (lv_at hl 2 rfl) ?_
  refine lv_iconst (v := 0) hx hb dL_daysLeft_1 (by decide) ?_
  refine lv_aload_n hx hb dL_daysLeft_2 rfl (lv_at hl 0 rfl) ?_
  refine lv_iload_n hx hb dL_daysLeft_3 rfl (lv_at hl 1 rfl) ?_
  refine x_V1 hx hb hml hown hE hS hl.1 cyX6_daysLeft tw718 hM ⟨Nat.le_refl _, Nat.le_refl _⟩ ⟨Nat.le_of_eq (Nat.zero_add _), Nat.le_of_eq (Nat.zero_add _)⟩ (x_recv hK hH (id := [0]) hd0 (ci := 6) rfl (by decide) rfl) hH rfl rfl (Nat.le_of_ble_eq_true rfl) dL_daysLeft_4 (fun H locs hH hS => ?_)
  refine lv_i2l hx hb dL_daysLeft_7 rfl ?_
  refine x_last hx hb hK hH hS hd30 rfl dL_daysLeft_8 (fun H locs hH hS => ?_)
  refine lv_goto (tgt := 18) hx hb dL_daysLeft_9 (by decide) ?_
  refine lv_iconst (v := 0) hx hb dL_daysLeft_18 (by decide) ?_
  refine W.widen (k := mc) (n := ms) (by omega) (by omega) ?_
  exact x_iret hx hb hr hlocks hS dL_daysLeft_19 rfl hH

set_option maxHeartbeats 1000000 in
set_option maxRecDepth 100000 in
theorem w_daysLeft_eIO (l : Launch) (g : xG) (dm : List Nat → Prop) (I : xI) (F : xF) (n fr lo : Nat) (y0 : Int32) (hd0 : dm [0]) (hT : xTc l yX6_daysLeft (xws yX6_daysLeft cX6_daysLeft 3 (some FieldType.int)) fr lo g [.ref (ga g [0]), .int y0] (xR g dm I F n) eIO (xG_ g dm I F n) 1 6) : xMl l yL_daysLeft cL_daysLeft 4 (some FieldType.int) [(0, 9, 12, 19), (0, 9, 15, 97)] (fr + 1) (8 + (3 + 11) + lo) g [.ref (ga g [0]), .int y0, .ref (ga g [30])] (xR g dm I F n) (some (.int 1)) (xG_ g dm I F n) 1 6 := by
  refine xMl.of (by decide) (Nat.le_of_ble_eq_true rfl) ?_
  intro P_ e_ s m_ bl_ mt_ cd_ ls hx hb hr hown hlocks hml htab hE hK hts hH hS hl hLs
  have hl : lv_has ls 4 [(0, .ref (ga g [0])), (1, .int y0), (2, .ref (ga g [30]))] := hl
  refine lv_aload_n hx hb dL_daysLeft_0 rfl (lv_at hl 2 rfl) ?_
  refine lv_iconst (v := 0) hx hb dL_daysLeft_1 (by decide) ?_
  refine lv_aload_n hx hb dL_daysLeft_2 rfl (lv_at hl 0 rfl) ?_
  refine lv_iload_n hx hb dL_daysLeft_3 rfl (lv_at hl 1 rfl) ?_
  refine x_contT (x_VT hx hb hml hown hE hS hl.1 cyX6_daysLeft tw718 hT ⟨Nat.le_refl _, Nat.le_refl _⟩ ⟨Nat.le_of_eq (Nat.zero_add _), Nat.le_of_eq (Nat.zero_add _)⟩ (x_recv hK hH (id := [0]) hd0 (ci := 6) rfl (by decide) rfl) hH rfl rfl (Nat.le_of_ble_eq_true rfl) dL_daysLeft_4) hS (fun ce q9 H1 locs1 hp1 hS1 hce hcv hcl => ?_)
  refine x_catch hown hE htab [] ⟨0, 9, 12, 19⟩ [⟨0, 9, 15, 97⟩] rfl (fun z hz => absurd hz List.not_mem_nil) rfl (by decide) tw247 cfIO hce hcv hcl ?_
  refine lv_astore_n (lv' := [(3, .ref q9), (0, .ref (ga g [0])), (1, .int y0), (2, .ref (ga g [30]))]) hx hb dL_daysLeft_12 rfl hl (by decide) rfl (fun ls hl => ?_)
  refine lv_iconst (v := 1) hx hb dL_daysLeft_13 (by decide) ?_
  refine W.widen (k := 1) (n := 6) (by omega) (by omega) ?_
  exact x_iret hx hb hr hlocks hS1 dL_daysLeft_14 rfl hp1

set_option maxHeartbeats 1000000 in
set_option maxRecDepth 100000 in
theorem w_daysLeft_eNS (l : Launch) (g : xG) (dm : List Nat → Prop) (I : xI) (F : xF) (n fr lo : Nat) (y0 : Int32) (hd0 : dm [0]) (hT : xTc l yX6_daysLeft (xws yX6_daysLeft cX6_daysLeft 3 (some FieldType.int)) fr lo g [.ref (ga g [0]), .int y0] (xR g dm I F n) eNS (xG_ g dm I F n) 1 6) : xMl l yL_daysLeft cL_daysLeft 4 (some FieldType.int) [(0, 9, 12, 19), (0, 9, 15, 97)] (fr + 1) (8 + (3 + 11) + lo) g [.ref (ga g [0]), .int y0, .ref (ga g [30])] (xR g dm I F n) (some (.int 2)) (xG_ g dm I F n) 1 6 := by
  refine xMl.of (by decide) (Nat.le_of_ble_eq_true rfl) ?_
  intro P_ e_ s m_ bl_ mt_ cd_ ls hx hb hr hown hlocks hml htab hE hK hts hH hS hl hLs
  have hl : lv_has ls 4 [(0, .ref (ga g [0])), (1, .int y0), (2, .ref (ga g [30]))] := hl
  refine lv_aload_n hx hb dL_daysLeft_0 rfl (lv_at hl 2 rfl) ?_
  refine lv_iconst (v := 0) hx hb dL_daysLeft_1 (by decide) ?_
  refine lv_aload_n hx hb dL_daysLeft_2 rfl (lv_at hl 0 rfl) ?_
  refine lv_iload_n hx hb dL_daysLeft_3 rfl (lv_at hl 1 rfl) ?_
  refine x_contT (x_VT hx hb hml hown hE hS hl.1 cyX6_daysLeft tw718 hT ⟨Nat.le_refl _, Nat.le_refl _⟩ ⟨Nat.le_of_eq (Nat.zero_add _), Nat.le_of_eq (Nat.zero_add _)⟩ (x_recv hK hH (id := [0]) hd0 (ci := 6) rfl (by decide) rfl) hH rfl rfl (Nat.le_of_ble_eq_true rfl) dL_daysLeft_4) hS (fun ce q9 H1 locs1 hp1 hS1 hce hcv hcl => ?_)
  refine x_catch hown hE htab [⟨0, 9, 12, 19⟩] ⟨0, 9, 15, 97⟩ [] rfl (fun z hz => by simp only [List.mem_cons, List.not_mem_nil, or_false] at hz; rcases hz with rfl; exact ⟨by decide, _, tw247, hLs _ (List.mem_of_getElem? (i := 6) rfl)⟩) rfl (by decide) tw717 cfNS hce hcv hcl ?_
  refine lv_astore_n (lv' := [(3, .ref q9), (0, .ref (ga g [0])), (1, .int y0), (2, .ref (ga g [30]))]) hx hb dL_daysLeft_15 rfl hl (by decide) rfl (fun ls hl => ?_)
  refine lv_iconst (v := 2) hx hb dL_daysLeft_16 (by decide) ?_
  refine W.widen (k := 1) (n := 6) (by omega) (by omega) ?_
  exact x_iret hx hb hr hlocks hS1 dL_daysLeft_17 rfl hp1

set_option maxHeartbeats 1000000 in
set_option maxRecDepth 100000 in
theorem w_holds (l : Launch) (g : xG) (dm dm2 : List Nat → Prop) (I I2 : xI) (F F2 : xF) (n n2 fr lo mc ms : Nat) (y0 y1 y2 y3 : Int32) (v : Int32) (hv : sBo v) (hd0 : dm [0]) (hd30 : dm2 [30]) (hM : xM l yX6_holds (xws yX6_holds cX6_holds 9 (some FieldType.boolean)) fr lo g [.ref (ga g [0]), .int y0, .int y1, .int y2, .int y3] (xR g dm I F n) (some (.int v)) (xR g dm2 I2 F2 n2) mc ms) : xMl l yL_holds cL_holds 7 (some FieldType.int) [(0, 21, 24, 19), (0, 21, 28, 97)] (fr + 1) (8 + (9 + 11) + lo) g [.ref (ga g [0]), .int y0, .int y1, .int y2, .int y3, .ref (ga g [30])] (xR g dm I F n) (some (.int 0)) (xR g dm2 (up I2 [30] 0 v) F2 n2) mc ms := by
  refine xMl.of (by decide) (Nat.le_of_ble_eq_true rfl) ?_
  intro P_ e_ s m_ bl_ mt_ cd_ ls hx hb hr hown hlocks hml htab hE hK hts hH hS hl hLs
  have hl : lv_has ls 7 [(0, .ref (ga g [0])), (1, .int y0), (2, .int y1), (3, .int y2), (4, .int y3), (5, .ref (ga g [30]))] := hl
  refine lv_aload hx hb dL_holds_0 (lv_at hl 5 rfl) ?_
  refine lv_iconst (v := 0) hx hb dL_holds_2 (by decide) ?_
  refine lv_aload_n hx hb dL_holds_3 rfl (lv_at hl 0 rfl) ?_
  refine lv_iload_n hx hb dL_holds_4 rfl (lv_at hl 1 rfl) ?_
  refine lv_iload_n hx hb dL_holds_5 rfl (lv_at hl 2 rfl) ?_
  refine lv_iload_n hx hb dL_holds_6 rfl (lv_at hl 3 rfl) ?_
  refine lv_iload hx hb dL_holds_7 (lv_at hl 4 rfl) ?_
  refine x_V1 hx hb hml hown hE hS hl.1 cyX6_holds tw745 hM ⟨Nat.le_refl _, Nat.le_refl _⟩ ⟨Nat.le_of_eq (Nat.zero_add _), Nat.le_of_eq (Nat.zero_add _)⟩ (x_recv hK hH (id := [0]) hd0 (ci := 6) rfl (by decide) rfl) hH rfl rfl (Nat.le_of_ble_eq_true rfl) dL_holds_9 (fun H locs hH hS => ?_)
  rcases hv with hv | hv
  · skip
    refine lv_if_eq (tgt := 19) hx hb dL_holds_12 (by decide) (fun _ => ?_) (fun q_ => absurd hv q_)
    refine lv_lconst (v := 0) hx hb dL_holds_19 (by decide) ?_
    refine x_last hx hb hK hH hS hd30 (show (0 : Int64) = v.toInt64 by rw [hv]; rfl) dL_holds_20 (fun H locs hH hS => ?_)
    refine lv_goto (tgt := 32) hx hb dL_holds_21 (by decide) ?_
    refine lv_iconst (v := 0) hx hb dL_holds_32 (by decide) ?_
    refine W.widen (k := mc) (n := ms) (by omega) (by omega) ?_
    exact x_iret hx hb hr hlocks hS dL_holds_33 rfl hH
  · skip
    refine lv_if_eq (tgt := 19) hx hb dL_holds_12 (by decide) (fun q_ => absurd q_ (by rw [hv]; decide)) (fun _ => ?_)
    refine lv_lconst (v := 1) hx hb dL_holds_15 (by decide) ?_
    refine lv_goto (tgt := 20) hx hb dL_holds_16 (by decide) ?_
    refine x_last hx hb hK hH hS hd30 (show (1 : Int64) = v.toInt64 by rw [hv]; rfl) dL_holds_20 (fun H locs hH hS => ?_)
    refine lv_goto (tgt := 32) hx hb dL_holds_21 (by decide) ?_
    refine lv_iconst (v := 0) hx hb dL_holds_32 (by decide) ?_
    refine W.widen (k := mc) (n := ms) (by omega) (by omega) ?_
    exact x_iret hx hb hr hlocks hS dL_holds_33 rfl hH

set_option maxHeartbeats 1000000 in
set_option maxRecDepth 100000 in
theorem w_holds_eIO (l : Launch) (g : xG) (dm : List Nat → Prop) (I : xI) (F : xF) (n fr lo : Nat) (y0 y1 y2 y3 : Int32) (hd0 : dm [0]) (hT : xTc l yX6_holds (xws yX6_holds cX6_holds 9 (some FieldType.boolean)) fr lo g [.ref (ga g [0]), .int y0, .int y1, .int y2, .int y3] (xR g dm I F n) eIO (xG_ g dm I F n) 1 6) : xMl l yL_holds cL_holds 7 (some FieldType.int) [(0, 21, 24, 19), (0, 21, 28, 97)] (fr + 1) (8 + (9 + 11) + lo) g [.ref (ga g [0]), .int y0, .int y1, .int y2, .int y3, .ref (ga g [30])] (xR g dm I F n) (some (.int 1)) (xG_ g dm I F n) 1 6 := by
  refine xMl.of (by decide) (Nat.le_of_ble_eq_true rfl) ?_
  intro P_ e_ s m_ bl_ mt_ cd_ ls hx hb hr hown hlocks hml htab hE hK hts hH hS hl hLs
  have hl : lv_has ls 7 [(0, .ref (ga g [0])), (1, .int y0), (2, .int y1), (3, .int y2), (4, .int y3), (5, .ref (ga g [30]))] := hl
  refine lv_aload hx hb dL_holds_0 (lv_at hl 5 rfl) ?_
  refine lv_iconst (v := 0) hx hb dL_holds_2 (by decide) ?_
  refine lv_aload_n hx hb dL_holds_3 rfl (lv_at hl 0 rfl) ?_
  refine lv_iload_n hx hb dL_holds_4 rfl (lv_at hl 1 rfl) ?_
  refine lv_iload_n hx hb dL_holds_5 rfl (lv_at hl 2 rfl) ?_
  refine lv_iload_n hx hb dL_holds_6 rfl (lv_at hl 3 rfl) ?_
  refine lv_iload hx hb dL_holds_7 (lv_at hl 4 rfl) ?_
  refine x_contT (x_VT hx hb hml hown hE hS hl.1 cyX6_holds tw745 hT ⟨Nat.le_refl _, Nat.le_refl _⟩ ⟨Nat.le_of_eq (Nat.zero_add _), Nat.le_of_eq (Nat.zero_add _)⟩ (x_recv hK hH (id := [0]) hd0 (ci := 6) rfl (by decide) rfl) hH rfl rfl (Nat.le_of_ble_eq_true rfl) dL_holds_9) hS (fun ce q9 H1 locs1 hp1 hS1 hce hcv hcl => ?_)
  refine x_catch hown hE htab [] ⟨0, 21, 24, 19⟩ [⟨0, 21, 28, 97⟩] rfl (fun z hz => absurd hz List.not_mem_nil) rfl (by decide) tw247 cfIO hce hcv hcl ?_
  refine lv_astore (lv' := [(6, .ref q9), (0, .ref (ga g [0])), (1, .int y0), (2, .int y1), (3, .int y2), (4, .int y3), (5, .ref (ga g [30]))]) hx hb dL_holds_24 hl (by decide) rfl (fun ls hl => ?_)
  refine lv_iconst (v := 1) hx hb dL_holds_26 (by decide) ?_
  refine W.widen (k := 1) (n := 6) (by omega) (by omega) ?_
  exact x_iret hx hb hr hlocks hS1 dL_holds_27 rfl hp1

set_option maxHeartbeats 1000000 in
set_option maxRecDepth 100000 in
theorem w_holds_eNS (l : Launch) (g : xG) (dm : List Nat → Prop) (I : xI) (F : xF) (n fr lo : Nat) (y0 y1 y2 y3 : Int32) (hd0 : dm [0]) (hT : xTc l yX6_holds (xws yX6_holds cX6_holds 9 (some FieldType.boolean)) fr lo g [.ref (ga g [0]), .int y0, .int y1, .int y2, .int y3] (xR g dm I F n) eNS (xG_ g dm I F n) 1 6) : xMl l yL_holds cL_holds 7 (some FieldType.int) [(0, 21, 24, 19), (0, 21, 28, 97)] (fr + 1) (8 + (9 + 11) + lo) g [.ref (ga g [0]), .int y0, .int y1, .int y2, .int y3, .ref (ga g [30])] (xR g dm I F n) (some (.int 2)) (xG_ g dm I F n) 1 6 := by
  refine xMl.of (by decide) (Nat.le_of_ble_eq_true rfl) ?_
  intro P_ e_ s m_ bl_ mt_ cd_ ls hx hb hr hown hlocks hml htab hE hK hts hH hS hl hLs
  have hl : lv_has ls 7 [(0, .ref (ga g [0])), (1, .int y0), (2, .int y1), (3, .int y2), (4, .int y3), (5, .ref (ga g [30]))] := hl
  refine lv_aload hx hb dL_holds_0 (lv_at hl 5 rfl) ?_
  refine lv_iconst (v := 0) hx hb dL_holds_2 (by decide) ?_
  refine lv_aload_n hx hb dL_holds_3 rfl (lv_at hl 0 rfl) ?_
  refine lv_iload_n hx hb dL_holds_4 rfl (lv_at hl 1 rfl) ?_
  refine lv_iload_n hx hb dL_holds_5 rfl (lv_at hl 2 rfl) ?_
  refine lv_iload_n hx hb dL_holds_6 rfl (lv_at hl 3 rfl) ?_
  refine lv_iload hx hb dL_holds_7 (lv_at hl 4 rfl) ?_
  refine x_contT (x_VT hx hb hml hown hE hS hl.1 cyX6_holds tw745 hT ⟨Nat.le_refl _, Nat.le_refl _⟩ ⟨Nat.le_of_eq (Nat.zero_add _), Nat.le_of_eq (Nat.zero_add _)⟩ (x_recv hK hH (id := [0]) hd0 (ci := 6) rfl (by decide) rfl) hH rfl rfl (Nat.le_of_ble_eq_true rfl) dL_holds_9) hS (fun ce q9 H1 locs1 hp1 hS1 hce hcv hcl => ?_)
  refine x_catch hown hE htab [⟨0, 21, 24, 19⟩] ⟨0, 21, 28, 97⟩ [] rfl (fun z hz => by simp only [List.mem_cons, List.not_mem_nil, or_false] at hz; rcases hz with rfl; exact ⟨by decide, _, tw247, hLs _ (List.mem_of_getElem? (i := 6) rfl)⟩) rfl (by decide) tw717 cfNS hce hcv hcl ?_
  refine lv_astore (lv' := [(6, .ref q9), (0, .ref (ga g [0])), (1, .int y0), (2, .int y1), (3, .int y2), (4, .int y3), (5, .ref (ga g [30]))]) hx hb dL_holds_28 hl (by decide) rfl (fun ls hl => ?_)
  refine lv_iconst (v := 2) hx hb dL_holds_30 (by decide) ?_
  refine W.widen (k := 1) (n := 6) (by omega) (by omega) ?_
  exact x_iret hx hb hr hlocks hS1 dL_holds_31 rfl hp1

set_option maxHeartbeats 1000000 in
set_option maxRecDepth 100000 in
theorem w_active (l : Launch) (g : xG) (dm dm2 : List Nat → Prop) (I I2 : xI) (F F2 : xF) (n n2 fr lo mc ms : Nat) (y0 : Int32) (v : Int32) (hd0 : dm [0]) (hd30 : dm2 [30]) (hM : xM l yX6_active (xws yX6_active cX6_active 2 (some FieldType.int)) fr lo g [.ref (ga g [0]), .int y0] (xR g dm I F n) (some (.int v)) (xR g dm2 I2 F2 n2) mc ms) : xMl l yL_active cL_active 4 (some FieldType.int) [(0, 9, 12, 19)] (fr + 1) (8 + (2 + 11) + lo) g [.ref (ga g [0]), .int y0, .ref (ga g [30])] (xR g dm I F n) (some (.int 0)) (xR g dm2 (up I2 [30] 0 v) F2 n2) mc ms := by
  refine xMl.of (by decide) (Nat.le_of_ble_eq_true rfl) ?_
  intro P_ e_ s m_ bl_ mt_ cd_ ls hx hb hr hown hlocks hml htab hE hK hts hH hS hl hLs
  have hl : lv_has ls 4 [(0, .ref (ga g [0])), (1, .int y0), (2, .ref (ga g [30]))] := hl
  refine lv_aload_n hx hb dL_active_0 rfl (lv_at hl 2 rfl) ?_
  refine lv_iconst (v := 0) hx hb dL_active_1 (by decide) ?_
  refine lv_aload_n hx hb dL_active_2 rfl (lv_at hl 0 rfl) ?_
  refine lv_iload_n hx hb dL_active_3 rfl (lv_at hl 1 rfl) ?_
  refine x_V1 hx hb hml hown hE hS hl.1 cyX6_active tw755 hM ⟨Nat.le_refl _, Nat.le_refl _⟩ ⟨Nat.le_of_eq (Nat.zero_add _), Nat.le_of_eq (Nat.zero_add _)⟩ (x_recv hK hH (id := [0]) hd0 (ci := 6) rfl (by decide) rfl) hH rfl rfl (Nat.le_of_ble_eq_true rfl) dL_active_4 (fun H locs hH hS => ?_)
  refine lv_i2l hx hb dL_active_7 rfl ?_
  refine x_last hx hb hK hH hS hd30 rfl dL_active_8 (fun H locs hH hS => ?_)
  refine lv_goto (tgt := 15) hx hb dL_active_9 (by decide) ?_
  refine lv_iconst (v := 0) hx hb dL_active_15 (by decide) ?_
  refine W.widen (k := mc) (n := ms) (by omega) (by omega) ?_
  exact x_iret hx hb hr hlocks hS dL_active_16 rfl hH

set_option maxHeartbeats 1000000 in
set_option maxRecDepth 100000 in
theorem w_active_eIO (l : Launch) (g : xG) (dm : List Nat → Prop) (I : xI) (F : xF) (n fr lo : Nat) (y0 : Int32) (hd0 : dm [0]) (hT : xTc l yX6_active (xws yX6_active cX6_active 2 (some FieldType.int)) fr lo g [.ref (ga g [0]), .int y0] (xR g dm I F n) eIO (xG_ g dm I F n) 1 6) : xMl l yL_active cL_active 4 (some FieldType.int) [(0, 9, 12, 19)] (fr + 1) (8 + (2 + 11) + lo) g [.ref (ga g [0]), .int y0, .ref (ga g [30])] (xR g dm I F n) (some (.int 1)) (xG_ g dm I F n) 1 6 := by
  refine xMl.of (by decide) (Nat.le_of_ble_eq_true rfl) ?_
  intro P_ e_ s m_ bl_ mt_ cd_ ls hx hb hr hown hlocks hml htab hE hK hts hH hS hl hLs
  have hl : lv_has ls 4 [(0, .ref (ga g [0])), (1, .int y0), (2, .ref (ga g [30]))] := hl
  refine lv_aload_n hx hb dL_active_0 rfl (lv_at hl 2 rfl) ?_
  refine lv_iconst (v := 0) hx hb dL_active_1 (by decide) ?_
  refine lv_aload_n hx hb dL_active_2 rfl (lv_at hl 0 rfl) ?_
  refine lv_iload_n hx hb dL_active_3 rfl (lv_at hl 1 rfl) ?_
  refine x_contT (x_VT hx hb hml hown hE hS hl.1 cyX6_active tw755 hT ⟨Nat.le_refl _, Nat.le_refl _⟩ ⟨Nat.le_of_eq (Nat.zero_add _), Nat.le_of_eq (Nat.zero_add _)⟩ (x_recv hK hH (id := [0]) hd0 (ci := 6) rfl (by decide) rfl) hH rfl rfl (Nat.le_of_ble_eq_true rfl) dL_active_4) hS (fun ce q9 H1 locs1 hp1 hS1 hce hcv hcl => ?_)
  refine x_catch hown hE htab [] ⟨0, 9, 12, 19⟩ [] rfl (fun z hz => absurd hz List.not_mem_nil) rfl (by decide) tw247 cfIO hce hcv hcl ?_
  refine lv_astore_n (lv' := [(3, .ref q9), (0, .ref (ga g [0])), (1, .int y0), (2, .ref (ga g [30]))]) hx hb dL_active_12 rfl hl (by decide) rfl (fun ls hl => ?_)
  refine lv_iconst (v := 1) hx hb dL_active_13 (by decide) ?_
  refine W.widen (k := 1) (n := 6) (by omega) (by omega) ?_
  exact x_iret hx hb hr hlocks hS1 dL_active_14 rfl hp1

set_option maxHeartbeats 1000000 in
set_option maxRecDepth 100000 in
theorem w_isOver (l : Launch) (g : xG) (dm dm2 : List Nat → Prop) (I I2 : xI) (F F2 : xF) (n n2 fr lo mc ms : Nat) (y0 : Int32) (v : Int32) (hv : sBo v) (hd0 : dm [0]) (hd30 : dm2 [30]) (hM : xM l yX6_isOver (xws yX6_isOver cX6_isOver 2 (some FieldType.boolean)) fr lo g [.ref (ga g [0]), .int y0] (xR g dm I F n) (some (.int v)) (xR g dm2 I2 F2 n2) mc ms) : xMl l yL_isOver cL_isOver 4 (some FieldType.int) [(0, 16, 19, 19)] (fr + 1) (8 + (2 + 11) + lo) g [.ref (ga g [0]), .int y0, .ref (ga g [30])] (xR g dm I F n) (some (.int 0)) (xR g dm2 (up I2 [30] 0 v) F2 n2) mc ms := by
  refine xMl.of (by decide) (Nat.le_of_ble_eq_true rfl) ?_
  intro P_ e_ s m_ bl_ mt_ cd_ ls hx hb hr hown hlocks hml htab hE hK hts hH hS hl hLs
  have hl : lv_has ls 4 [(0, .ref (ga g [0])), (1, .int y0), (2, .ref (ga g [30]))] := hl
  refine lv_aload_n hx hb dL_isOver_0 rfl (lv_at hl 2 rfl) ?_
  refine lv_iconst (v := 0) hx hb dL_isOver_1 (by decide) ?_
  refine lv_aload_n hx hb dL_isOver_2 rfl (lv_at hl 0 rfl) ?_
  refine lv_iload_n hx hb dL_isOver_3 rfl (lv_at hl 1 rfl) ?_
  refine x_V1 hx hb hml hown hE hS hl.1 cyX6_isOver tw766 hM ⟨Nat.le_refl _, Nat.le_refl _⟩ ⟨Nat.le_of_eq (Nat.zero_add _), Nat.le_of_eq (Nat.zero_add _)⟩ (x_recv hK hH (id := [0]) hd0 (ci := 6) rfl (by decide) rfl) hH rfl rfl (Nat.le_of_ble_eq_true rfl) dL_isOver_4 (fun H locs hH hS => ?_)
  rcases hv with hv | hv
  · skip
    refine lv_if_eq (tgt := 14) hx hb dL_isOver_7 (by decide) (fun _ => ?_) (fun q_ => absurd hv q_)
    refine lv_lconst (v := 0) hx hb dL_isOver_14 (by decide) ?_
    refine x_last hx hb hK hH hS hd30 (show (0 : Int64) = v.toInt64 by rw [hv]; rfl) dL_isOver_15 (fun H locs hH hS => ?_)
    refine lv_goto (tgt := 22) hx hb dL_isOver_16 (by decide) ?_
    refine lv_iconst (v := 0) hx hb dL_isOver_22 (by decide) ?_
    refine W.widen (k := mc) (n := ms) (by omega) (by omega) ?_
    exact x_iret hx hb hr hlocks hS dL_isOver_23 rfl hH
  · skip
    refine lv_if_eq (tgt := 14) hx hb dL_isOver_7 (by decide) (fun q_ => absurd q_ (by rw [hv]; decide)) (fun _ => ?_)
    refine lv_lconst (v := 1) hx hb dL_isOver_10 (by decide) ?_
    refine lv_goto (tgt := 15) hx hb dL_isOver_11 (by decide) ?_
    refine x_last hx hb hK hH hS hd30 (show (1 : Int64) = v.toInt64 by rw [hv]; rfl) dL_isOver_15 (fun H locs hH hS => ?_)
    refine lv_goto (tgt := 22) hx hb dL_isOver_16 (by decide) ?_
    refine lv_iconst (v := 0) hx hb dL_isOver_22 (by decide) ?_
    refine W.widen (k := mc) (n := ms) (by omega) (by omega) ?_
    exact x_iret hx hb hr hlocks hS dL_isOver_23 rfl hH

set_option maxHeartbeats 1000000 in
set_option maxRecDepth 100000 in
theorem w_isOver_eIO (l : Launch) (g : xG) (dm : List Nat → Prop) (I : xI) (F : xF) (n fr lo : Nat) (y0 : Int32) (hd0 : dm [0]) (hT : xTc l yX6_isOver (xws yX6_isOver cX6_isOver 2 (some FieldType.boolean)) fr lo g [.ref (ga g [0]), .int y0] (xR g dm I F n) eIO (xG_ g dm I F n) 1 6) : xMl l yL_isOver cL_isOver 4 (some FieldType.int) [(0, 16, 19, 19)] (fr + 1) (8 + (2 + 11) + lo) g [.ref (ga g [0]), .int y0, .ref (ga g [30])] (xR g dm I F n) (some (.int 1)) (xG_ g dm I F n) 1 6 := by
  refine xMl.of (by decide) (Nat.le_of_ble_eq_true rfl) ?_
  intro P_ e_ s m_ bl_ mt_ cd_ ls hx hb hr hown hlocks hml htab hE hK hts hH hS hl hLs
  have hl : lv_has ls 4 [(0, .ref (ga g [0])), (1, .int y0), (2, .ref (ga g [30]))] := hl
  refine lv_aload_n hx hb dL_isOver_0 rfl (lv_at hl 2 rfl) ?_
  refine lv_iconst (v := 0) hx hb dL_isOver_1 (by decide) ?_
  refine lv_aload_n hx hb dL_isOver_2 rfl (lv_at hl 0 rfl) ?_
  refine lv_iload_n hx hb dL_isOver_3 rfl (lv_at hl 1 rfl) ?_
  refine x_contT (x_VT hx hb hml hown hE hS hl.1 cyX6_isOver tw766 hT ⟨Nat.le_refl _, Nat.le_refl _⟩ ⟨Nat.le_of_eq (Nat.zero_add _), Nat.le_of_eq (Nat.zero_add _)⟩ (x_recv hK hH (id := [0]) hd0 (ci := 6) rfl (by decide) rfl) hH rfl rfl (Nat.le_of_ble_eq_true rfl) dL_isOver_4) hS (fun ce q9 H1 locs1 hp1 hS1 hce hcv hcl => ?_)
  refine x_catch hown hE htab [] ⟨0, 16, 19, 19⟩ [] rfl (fun z hz => absurd hz List.not_mem_nil) rfl (by decide) tw247 cfIO hce hcv hcl ?_
  refine lv_astore_n (lv' := [(3, .ref q9), (0, .ref (ga g [0])), (1, .int y0), (2, .ref (ga g [30]))]) hx hb dL_isOver_19 rfl hl (by decide) rfl (fun ls hl => ?_)
  refine lv_iconst (v := 1) hx hb dL_isOver_20 (by decide) ?_
  refine W.widen (k := 1) (n := 6) (by omega) (by omega) ?_
  exact x_iret hx hb hr hlocks hS1 dL_isOver_21 rfl hp1

set_option maxHeartbeats 1000000 in
set_option maxRecDepth 100000 in
theorem w_rounds (l : Launch) (g : xG) (dm dm2 : List Nat → Prop) (I I2 : xI) (F F2 : xF) (n n2 fr lo mc ms : Nat) (y0 : Int32) (v : Int32) (hd0 : dm [0]) (hd30 : dm2 [30]) (hM : xM l yX6_rounds (xws yX6_rounds cX6_rounds 2 (some FieldType.int)) fr lo g [.ref (ga g [0]), .int y0] (xR g dm I F n) (some (.int v)) (xR g dm2 I2 F2 n2) mc ms) : xMl l yL_rounds cL_rounds 4 (some FieldType.int) [(0, 9, 12, 19)] (fr + 1) (8 + (2 + 11) + lo) g [.ref (ga g [0]), .int y0, .ref (ga g [30])] (xR g dm I F n) (some (.int 0)) (xR g dm2 (up I2 [30] 0 v) F2 n2) mc ms := by
  refine xMl.of (by decide) (Nat.le_of_ble_eq_true rfl) ?_
  intro P_ e_ s m_ bl_ mt_ cd_ ls hx hb hr hown hlocks hml htab hE hK hts hH hS hl hLs
  have hl : lv_has ls 4 [(0, .ref (ga g [0])), (1, .int y0), (2, .ref (ga g [30]))] := hl
  refine lv_aload_n hx hb dL_rounds_0 rfl (lv_at hl 2 rfl) ?_
  refine lv_iconst (v := 0) hx hb dL_rounds_1 (by decide) ?_
  refine lv_aload_n hx hb dL_rounds_2 rfl (lv_at hl 0 rfl) ?_
  refine lv_iload_n hx hb dL_rounds_3 rfl (lv_at hl 1 rfl) ?_
  refine x_V1 hx hb hml hown hE hS hl.1 cyX6_rounds tw777 hM ⟨Nat.le_refl _, Nat.le_refl _⟩ ⟨Nat.le_of_eq (Nat.zero_add _), Nat.le_of_eq (Nat.zero_add _)⟩ (x_recv hK hH (id := [0]) hd0 (ci := 6) rfl (by decide) rfl) hH rfl rfl (Nat.le_of_ble_eq_true rfl) dL_rounds_4 (fun H locs hH hS => ?_)
  refine lv_i2l hx hb dL_rounds_7 rfl ?_
  refine x_last hx hb hK hH hS hd30 rfl dL_rounds_8 (fun H locs hH hS => ?_)
  refine lv_goto (tgt := 15) hx hb dL_rounds_9 (by decide) ?_
  refine lv_iconst (v := 0) hx hb dL_rounds_15 (by decide) ?_
  refine W.widen (k := mc) (n := ms) (by omega) (by omega) ?_
  exact x_iret hx hb hr hlocks hS dL_rounds_16 rfl hH

set_option maxHeartbeats 1000000 in
set_option maxRecDepth 100000 in
theorem w_rounds_eIO (l : Launch) (g : xG) (dm : List Nat → Prop) (I : xI) (F : xF) (n fr lo : Nat) (y0 : Int32) (hd0 : dm [0]) (hT : xTc l yX6_rounds (xws yX6_rounds cX6_rounds 2 (some FieldType.int)) fr lo g [.ref (ga g [0]), .int y0] (xR g dm I F n) eIO (xG_ g dm I F n) 1 6) : xMl l yL_rounds cL_rounds 4 (some FieldType.int) [(0, 9, 12, 19)] (fr + 1) (8 + (2 + 11) + lo) g [.ref (ga g [0]), .int y0, .ref (ga g [30])] (xR g dm I F n) (some (.int 1)) (xG_ g dm I F n) 1 6 := by
  refine xMl.of (by decide) (Nat.le_of_ble_eq_true rfl) ?_
  intro P_ e_ s m_ bl_ mt_ cd_ ls hx hb hr hown hlocks hml htab hE hK hts hH hS hl hLs
  have hl : lv_has ls 4 [(0, .ref (ga g [0])), (1, .int y0), (2, .ref (ga g [30]))] := hl
  refine lv_aload_n hx hb dL_rounds_0 rfl (lv_at hl 2 rfl) ?_
  refine lv_iconst (v := 0) hx hb dL_rounds_1 (by decide) ?_
  refine lv_aload_n hx hb dL_rounds_2 rfl (lv_at hl 0 rfl) ?_
  refine lv_iload_n hx hb dL_rounds_3 rfl (lv_at hl 1 rfl) ?_
  refine x_contT (x_VT hx hb hml hown hE hS hl.1 cyX6_rounds tw777 hT ⟨Nat.le_refl _, Nat.le_refl _⟩ ⟨Nat.le_of_eq (Nat.zero_add _), Nat.le_of_eq (Nat.zero_add _)⟩ (x_recv hK hH (id := [0]) hd0 (ci := 6) rfl (by decide) rfl) hH rfl rfl (Nat.le_of_ble_eq_true rfl) dL_rounds_4) hS (fun ce q9 H1 locs1 hp1 hS1 hce hcv hcl => ?_)
  refine x_catch hown hE htab [] ⟨0, 9, 12, 19⟩ [] rfl (fun z hz => absurd hz List.not_mem_nil) rfl (by decide) tw247 cfIO hce hcv hcl ?_
  refine lv_astore_n (lv' := [(3, .ref q9), (0, .ref (ga g [0])), (1, .int y0), (2, .ref (ga g [30]))]) hx hb dL_rounds_12 rfl hl (by decide) rfl (fun ls hl => ?_)
  refine lv_iconst (v := 1) hx hb dL_rounds_13 (by decide) ?_
  refine W.widen (k := 1) (n := 6) (by omega) (by omega) ?_
  exact x_iret hx hb hr hlocks hS1 dL_rounds_14 rfl hp1

set_option maxHeartbeats 1000000 in
set_option maxRecDepth 100000 in
theorem w_datum (l : Launch) (g : xG) (dm dm2 : List Nat → Prop) (I I2 : xI) (F F2 : xF) (n n2 fr lo mc ms : Nat) (y0 y1 : Int32) (v : Int32) (hd0 : dm [0]) (hd30 : dm2 [30]) (hM : xM l yX6_datum (xws yX6_datum cX6_datum 4 (some FieldType.int)) fr lo g [.ref (ga g [0]), .int y0, .int y1] (xR g dm I F n) (some (.int v)) (xR g dm2 I2 F2 n2) mc ms) : xMl l yL_datum cL_datum 5 (some FieldType.int) [(0, 10, 13, 19), (0, 10, 17, 21)] (fr + 1) (8 + (4 + 11) + lo) g [.ref (ga g [0]), .int y0, .int y1, .ref (ga g [30])] (xR g dm I F n) (some (.int 0)) (xR g dm2 (up I2 [30] 0 v) F2 n2) mc ms := by
  refine xMl.of (by decide) (Nat.le_of_ble_eq_true rfl) ?_
  intro P_ e_ s m_ bl_ mt_ cd_ ls hx hb hr hown hlocks hml htab hE hK hts hH hS hl hLs
  have hl : lv_has ls 5 [(0, .ref (ga g [0])), (1, .int y0), (2, .int y1), (3, .ref (ga g [30]))] := hl
  refine lv_aload_n hx hb dL_datum_0 rfl (lv_at hl 3 rfl) ?_
  refine lv_iconst (v := 0) hx hb dL_datum_1 (by decide) ?_
  refine lv_aload_n hx hb dL_datum_2 rfl (lv_at hl 0 rfl) ?_
  refine lv_iload_n hx hb dL_datum_3 rfl (lv_at hl 1 rfl) ?_
  refine lv_iload_n hx hb dL_datum_4 rfl (lv_at hl 2 rfl) ?_
  refine x_V1 hx hb hml hown hE hS hl.1 cyX6_datum tw784 hM ⟨Nat.le_refl _, Nat.le_refl _⟩ ⟨Nat.le_of_eq (Nat.zero_add _), Nat.le_of_eq (Nat.zero_add _)⟩ (x_recv hK hH (id := [0]) hd0 (ci := 6) rfl (by decide) rfl) hH rfl rfl (Nat.le_of_ble_eq_true rfl) dL_datum_5 (fun H locs hH hS => ?_)
  refine lv_i2l hx hb dL_datum_8 rfl ?_
  refine x_last hx hb hK hH hS hd30 rfl dL_datum_9 (fun H locs hH hS => ?_)
  refine lv_goto (tgt := 21) hx hb dL_datum_10 (by decide) ?_
  refine lv_iconst (v := 0) hx hb dL_datum_21 (by decide) ?_
  refine W.widen (k := mc) (n := ms) (by omega) (by omega) ?_
  exact x_iret hx hb hr hlocks hS dL_datum_22 rfl hH

set_option maxHeartbeats 1000000 in
set_option maxRecDepth 100000 in
theorem w_datum_eIO (l : Launch) (g : xG) (dm : List Nat → Prop) (I : xI) (F : xF) (n fr lo : Nat) (y0 y1 : Int32) (hd0 : dm [0]) (hT : xTc l yX6_datum (xws yX6_datum cX6_datum 4 (some FieldType.int)) fr lo g [.ref (ga g [0]), .int y0, .int y1] (xR g dm I F n) eIO (xG_ g dm I F n) 1 6) : xMl l yL_datum cL_datum 5 (some FieldType.int) [(0, 10, 13, 19), (0, 10, 17, 21)] (fr + 1) (8 + (4 + 11) + lo) g [.ref (ga g [0]), .int y0, .int y1, .ref (ga g [30])] (xR g dm I F n) (some (.int 1)) (xG_ g dm I F n) 1 6 := by
  refine xMl.of (by decide) (Nat.le_of_ble_eq_true rfl) ?_
  intro P_ e_ s m_ bl_ mt_ cd_ ls hx hb hr hown hlocks hml htab hE hK hts hH hS hl hLs
  have hl : lv_has ls 5 [(0, .ref (ga g [0])), (1, .int y0), (2, .int y1), (3, .ref (ga g [30]))] := hl
  refine lv_aload_n hx hb dL_datum_0 rfl (lv_at hl 3 rfl) ?_
  refine lv_iconst (v := 0) hx hb dL_datum_1 (by decide) ?_
  refine lv_aload_n hx hb dL_datum_2 rfl (lv_at hl 0 rfl) ?_
  refine lv_iload_n hx hb dL_datum_3 rfl (lv_at hl 1 rfl) ?_
  refine lv_iload_n hx hb dL_datum_4 rfl (lv_at hl 2 rfl) ?_
  refine x_contT (x_VT hx hb hml hown hE hS hl.1 cyX6_datum tw784 hT ⟨Nat.le_refl _, Nat.le_refl _⟩ ⟨Nat.le_of_eq (Nat.zero_add _), Nat.le_of_eq (Nat.zero_add _)⟩ (x_recv hK hH (id := [0]) hd0 (ci := 6) rfl (by decide) rfl) hH rfl rfl (Nat.le_of_ble_eq_true rfl) dL_datum_5) hS (fun ce q9 H1 locs1 hp1 hS1 hce hcv hcl => ?_)
  refine x_catch hown hE htab [] ⟨0, 10, 13, 19⟩ [⟨0, 10, 17, 21⟩] rfl (fun z hz => absurd hz List.not_mem_nil) rfl (by decide) tw247 cfIO hce hcv hcl ?_
  refine lv_astore (lv' := [(4, .ref q9), (0, .ref (ga g [0])), (1, .int y0), (2, .int y1), (3, .ref (ga g [30]))]) hx hb dL_datum_13 hl (by decide) rfl (fun ls hl => ?_)
  refine lv_iconst (v := 1) hx hb dL_datum_15 (by decide) ?_
  refine W.widen (k := 1) (n := 6) (by omega) (by omega) ?_
  exact x_iret hx hb hr hlocks hS1 dL_datum_16 rfl hp1

set_option maxHeartbeats 1000000 in
set_option maxRecDepth 100000 in
theorem w_datum_eIA (l : Launch) (g : xG) (dm : List Nat → Prop) (I : xI) (F : xF) (n fr lo : Nat) (y0 y1 : Int32) (hd0 : dm [0]) (hT : xTc l yX6_datum (xws yX6_datum cX6_datum 4 (some FieldType.int)) fr lo g [.ref (ga g [0]), .int y0, .int y1] (xR g dm I F n) eIA (xG_ g dm I F n) 1 6) : xMl l yL_datum cL_datum 5 (some FieldType.int) [(0, 10, 13, 19), (0, 10, 17, 21)] (fr + 1) (8 + (4 + 11) + lo) g [.ref (ga g [0]), .int y0, .int y1, .ref (ga g [30])] (xR g dm I F n) (some (.int 2)) (xG_ g dm I F n) 1 6 := by
  refine xMl.of (by decide) (Nat.le_of_ble_eq_true rfl) ?_
  intro P_ e_ s m_ bl_ mt_ cd_ ls hx hb hr hown hlocks hml htab hE hK hts hH hS hl hLs
  have hl : lv_has ls 5 [(0, .ref (ga g [0])), (1, .int y0), (2, .int y1), (3, .ref (ga g [30]))] := hl
  refine lv_aload_n hx hb dL_datum_0 rfl (lv_at hl 3 rfl) ?_
  refine lv_iconst (v := 0) hx hb dL_datum_1 (by decide) ?_
  refine lv_aload_n hx hb dL_datum_2 rfl (lv_at hl 0 rfl) ?_
  refine lv_iload_n hx hb dL_datum_3 rfl (lv_at hl 1 rfl) ?_
  refine lv_iload_n hx hb dL_datum_4 rfl (lv_at hl 2 rfl) ?_
  refine x_contT (x_VT hx hb hml hown hE hS hl.1 cyX6_datum tw784 hT ⟨Nat.le_refl _, Nat.le_refl _⟩ ⟨Nat.le_of_eq (Nat.zero_add _), Nat.le_of_eq (Nat.zero_add _)⟩ (x_recv hK hH (id := [0]) hd0 (ci := 6) rfl (by decide) rfl) hH rfl rfl (Nat.le_of_ble_eq_true rfl) dL_datum_5) hS (fun ce q9 H1 locs1 hp1 hS1 hce hcv hcl => ?_)
  refine x_catch hown hE htab [⟨0, 10, 13, 19⟩] ⟨0, 10, 17, 21⟩ [] rfl (fun z hz => by simp only [List.mem_cons, List.not_mem_nil, or_false] at hz; rcases hz with rfl; exact ⟨by decide, _, tw247, hLs _ (List.mem_of_getElem? (i := 4) rfl)⟩) rfl (by decide) tw248 cfIA hce hcv hcl ?_
  refine lv_astore (lv' := [(4, .ref q9), (0, .ref (ga g [0])), (1, .int y0), (2, .int y1), (3, .ref (ga g [30]))]) hx hb dL_datum_17 hl (by decide) rfl (fun ls hl => ?_)
  refine lv_iconst (v := 2) hx hb dL_datum_19 (by decide) ?_
  refine W.widen (k := 1) (n := 6) (by omega) (by omega) ?_
  exact x_iret hx hb hr hlocks hS1 dL_datum_20 rfl hp1

set_option maxHeartbeats 1000000 in
set_option maxRecDepth 100000 in
theorem w_days (l : Launch) (g : xG) (dm dm2 : List Nat → Prop) (I I2 : xI) (F F2 : xF) (n n2 fr lo mc ms : Nat) (y0 : Int32) (v : Int32) (hd0 : dm [0]) (hd30 : dm2 [30]) (hM : xM l yX6_days (xws yX6_days cX6_days 2 (some FieldType.int)) fr lo g [.ref (ga g [0]), .int y0] (xR g dm I F n) (some (.int v)) (xR g dm2 I2 F2 n2) mc ms) : xMl l yL_days cL_days 4 (some FieldType.int) [(0, 9, 12, 19)] (fr + 1) (8 + (2 + 11) + lo) g [.ref (ga g [0]), .int y0, .ref (ga g [30])] (xR g dm I F n) (some (.int 0)) (xR g dm2 (up I2 [30] 0 v) F2 n2) mc ms := by
  refine xMl.of (by decide) (Nat.le_of_ble_eq_true rfl) ?_
  intro P_ e_ s m_ bl_ mt_ cd_ ls hx hb hr hown hlocks hml htab hE hK hts hH hS hl hLs
  have hl : lv_has ls 4 [(0, .ref (ga g [0])), (1, .int y0), (2, .ref (ga g [30]))] := hl
  refine lv_aload_n hx hb dL_days_0 rfl (lv_at hl 2 rfl) ?_
  refine lv_iconst (v := 0) hx hb dL_days_1 (by decide) ?_
  refine lv_aload_n hx hb dL_days_2 rfl (lv_at hl 0 rfl) ?_
  refine lv_iload_n hx hb dL_days_3 rfl (lv_at hl 1 rfl) ?_
  refine x_V1 hx hb hml hown hE hS hl.1 cyX6_days tw791 hM ⟨Nat.le_refl _, Nat.le_refl _⟩ ⟨Nat.le_of_eq (Nat.zero_add _), Nat.le_of_eq (Nat.zero_add _)⟩ (x_recv hK hH (id := [0]) hd0 (ci := 6) rfl (by decide) rfl) hH rfl rfl (Nat.le_of_ble_eq_true rfl) dL_days_4 (fun H locs hH hS => ?_)
  refine lv_i2l hx hb dL_days_7 rfl ?_
  refine x_last hx hb hK hH hS hd30 rfl dL_days_8 (fun H locs hH hS => ?_)
  refine lv_goto (tgt := 15) hx hb dL_days_9 (by decide) ?_
  refine lv_iconst (v := 0) hx hb dL_days_15 (by decide) ?_
  refine W.widen (k := mc) (n := ms) (by omega) (by omega) ?_
  exact x_iret hx hb hr hlocks hS dL_days_16 rfl hH

set_option maxHeartbeats 1000000 in
set_option maxRecDepth 100000 in
theorem w_days_eIO (l : Launch) (g : xG) (dm : List Nat → Prop) (I : xI) (F : xF) (n fr lo : Nat) (y0 : Int32) (hd0 : dm [0]) (hT : xTc l yX6_days (xws yX6_days cX6_days 2 (some FieldType.int)) fr lo g [.ref (ga g [0]), .int y0] (xR g dm I F n) eIO (xG_ g dm I F n) 1 6) : xMl l yL_days cL_days 4 (some FieldType.int) [(0, 9, 12, 19)] (fr + 1) (8 + (2 + 11) + lo) g [.ref (ga g [0]), .int y0, .ref (ga g [30])] (xR g dm I F n) (some (.int 1)) (xG_ g dm I F n) 1 6 := by
  refine xMl.of (by decide) (Nat.le_of_ble_eq_true rfl) ?_
  intro P_ e_ s m_ bl_ mt_ cd_ ls hx hb hr hown hlocks hml htab hE hK hts hH hS hl hLs
  have hl : lv_has ls 4 [(0, .ref (ga g [0])), (1, .int y0), (2, .ref (ga g [30]))] := hl
  refine lv_aload_n hx hb dL_days_0 rfl (lv_at hl 2 rfl) ?_
  refine lv_iconst (v := 0) hx hb dL_days_1 (by decide) ?_
  refine lv_aload_n hx hb dL_days_2 rfl (lv_at hl 0 rfl) ?_
  refine lv_iload_n hx hb dL_days_3 rfl (lv_at hl 1 rfl) ?_
  refine x_contT (x_VT hx hb hml hown hE hS hl.1 cyX6_days tw791 hT ⟨Nat.le_refl _, Nat.le_refl _⟩ ⟨Nat.le_of_eq (Nat.zero_add _), Nat.le_of_eq (Nat.zero_add _)⟩ (x_recv hK hH (id := [0]) hd0 (ci := 6) rfl (by decide) rfl) hH rfl rfl (Nat.le_of_ble_eq_true rfl) dL_days_4) hS (fun ce q9 H1 locs1 hp1 hS1 hce hcv hcl => ?_)
  refine x_catch hown hE htab [] ⟨0, 9, 12, 19⟩ [] rfl (fun z hz => absurd hz List.not_mem_nil) rfl (by decide) tw247 cfIO hce hcv hcl ?_
  refine lv_astore_n (lv' := [(3, .ref q9), (0, .ref (ga g [0])), (1, .int y0), (2, .ref (ga g [30]))]) hx hb dL_days_12 rfl hl (by decide) rfl (fun ls hl => ?_)
  refine lv_iconst (v := 1) hx hb dL_days_13 (by decide) ?_
  refine W.widen (k := 1) (n := 6) (by omega) (by omega) ?_
  exact x_iret hx hb hr hlocks hS1 dL_days_14 rfl hp1

set_option maxHeartbeats 1000000 in
set_option maxRecDepth 100000 in
theorem w_planOf (l : Launch) (g : xG) (dm dm2 : List Nat → Prop) (I I2 : xI) (F F2 : xF) (n n2 fr lo mc ms : Nat) (y0 : Int32) (v : Int32) (hd0 : dm [0]) (hd30 : dm2 [30]) (hM : xM l yX6_planOf (xws yX6_planOf cX6_planOf 2 (some FieldType.int)) fr lo g [.ref (ga g [0]), .int y0] (xR g dm I F n) (some (.int v)) (xR g dm2 I2 F2 n2) mc ms) : xMl l yL_planOf cL_planOf 4 (some FieldType.int) [(0, 9, 12, 19)] (fr + 1) (8 + (2 + 11) + lo) g [.ref (ga g [0]), .int y0, .ref (ga g [30])] (xR g dm I F n) (some (.int 0)) (xR g dm2 (up I2 [30] 0 v) F2 n2) mc ms := by
  refine xMl.of (by decide) (Nat.le_of_ble_eq_true rfl) ?_
  intro P_ e_ s m_ bl_ mt_ cd_ ls hx hb hr hown hlocks hml htab hE hK hts hH hS hl hLs
  have hl : lv_has ls 4 [(0, .ref (ga g [0])), (1, .int y0), (2, .ref (ga g [30]))] := hl
  refine lv_aload_n hx hb dL_planOf_0 rfl (lv_at hl 2 rfl) ?_
  refine lv_iconst (v := 0) hx hb dL_planOf_1 (by decide) ?_
  refine lv_aload_n hx hb dL_planOf_2 rfl (lv_at hl 0 rfl) ?_
  refine lv_iload_n hx hb dL_planOf_3 rfl (lv_at hl 1 rfl) ?_
  refine x_V1 hx hb hml hown hE hS hl.1 cyX6_planOf tw798 hM ⟨Nat.le_refl _, Nat.le_refl _⟩ ⟨Nat.le_of_eq (Nat.zero_add _), Nat.le_of_eq (Nat.zero_add _)⟩ (x_recv hK hH (id := [0]) hd0 (ci := 6) rfl (by decide) rfl) hH rfl rfl (Nat.le_of_ble_eq_true rfl) dL_planOf_4 (fun H locs hH hS => ?_)
  refine lv_i2l hx hb dL_planOf_7 rfl ?_
  refine x_last hx hb hK hH hS hd30 rfl dL_planOf_8 (fun H locs hH hS => ?_)
  refine lv_goto (tgt := 15) hx hb dL_planOf_9 (by decide) ?_
  refine lv_iconst (v := 0) hx hb dL_planOf_15 (by decide) ?_
  refine W.widen (k := mc) (n := ms) (by omega) (by omega) ?_
  exact x_iret hx hb hr hlocks hS dL_planOf_16 rfl hH

set_option maxHeartbeats 1000000 in
set_option maxRecDepth 100000 in
theorem w_planOf_eIO (l : Launch) (g : xG) (dm : List Nat → Prop) (I : xI) (F : xF) (n fr lo : Nat) (y0 : Int32) (hd0 : dm [0]) (hT : xTc l yX6_planOf (xws yX6_planOf cX6_planOf 2 (some FieldType.int)) fr lo g [.ref (ga g [0]), .int y0] (xR g dm I F n) eIO (xG_ g dm I F n) 1 6) : xMl l yL_planOf cL_planOf 4 (some FieldType.int) [(0, 9, 12, 19)] (fr + 1) (8 + (2 + 11) + lo) g [.ref (ga g [0]), .int y0, .ref (ga g [30])] (xR g dm I F n) (some (.int 1)) (xG_ g dm I F n) 1 6 := by
  refine xMl.of (by decide) (Nat.le_of_ble_eq_true rfl) ?_
  intro P_ e_ s m_ bl_ mt_ cd_ ls hx hb hr hown hlocks hml htab hE hK hts hH hS hl hLs
  have hl : lv_has ls 4 [(0, .ref (ga g [0])), (1, .int y0), (2, .ref (ga g [30]))] := hl
  refine lv_aload_n hx hb dL_planOf_0 rfl (lv_at hl 2 rfl) ?_
  refine lv_iconst (v := 0) hx hb dL_planOf_1 (by decide) ?_
  refine lv_aload_n hx hb dL_planOf_2 rfl (lv_at hl 0 rfl) ?_
  refine lv_iload_n hx hb dL_planOf_3 rfl (lv_at hl 1 rfl) ?_
  refine x_contT (x_VT hx hb hml hown hE hS hl.1 cyX6_planOf tw798 hT ⟨Nat.le_refl _, Nat.le_refl _⟩ ⟨Nat.le_of_eq (Nat.zero_add _), Nat.le_of_eq (Nat.zero_add _)⟩ (x_recv hK hH (id := [0]) hd0 (ci := 6) rfl (by decide) rfl) hH rfl rfl (Nat.le_of_ble_eq_true rfl) dL_planOf_4) hS (fun ce q9 H1 locs1 hp1 hS1 hce hcv hcl => ?_)
  refine x_catch hown hE htab [] ⟨0, 9, 12, 19⟩ [] rfl (fun z hz => absurd hz List.not_mem_nil) rfl (by decide) tw247 cfIO hce hcv hcl ?_
  refine lv_astore_n (lv' := [(3, .ref q9), (0, .ref (ga g [0])), (1, .int y0), (2, .ref (ga g [30]))]) hx hb dL_planOf_12 rfl hl (by decide) rfl (fun ls hl => ?_)
  refine lv_iconst (v := 1) hx hb dL_planOf_13 (by decide) ?_
  refine W.widen (k := 1) (n := 6) (by omega) (by omega) ?_
  exact x_iret hx hb hr hlocks hS1 dL_planOf_14 rfl hp1

set_option maxHeartbeats 1000000 in
set_option maxRecDepth 100000 in
theorem w_isWaiting (l : Launch) (g : xG) (dm dm2 : List Nat → Prop) (I I2 : xI) (F F2 : xF) (n n2 fr lo mc ms : Nat) (y0 : Int32) (v : Int32) (hv : sBo v) (hd0 : dm [0]) (hd30 : dm2 [30]) (hM : xM l yX6_isWaiting (xws yX6_isWaiting cX6_isWaiting 2 (some FieldType.boolean)) fr lo g [.ref (ga g [0]), .int y0] (xR g dm I F n) (some (.int v)) (xR g dm2 I2 F2 n2) mc ms) : xMl l yL_isWaiting cL_isWaiting 4 (some FieldType.int) [(0, 16, 19, 19)] (fr + 1) (8 + (2 + 11) + lo) g [.ref (ga g [0]), .int y0, .ref (ga g [30])] (xR g dm I F n) (some (.int 0)) (xR g dm2 (up I2 [30] 0 v) F2 n2) mc ms := by
  refine xMl.of (by decide) (Nat.le_of_ble_eq_true rfl) ?_
  intro P_ e_ s m_ bl_ mt_ cd_ ls hx hb hr hown hlocks hml htab hE hK hts hH hS hl hLs
  have hl : lv_has ls 4 [(0, .ref (ga g [0])), (1, .int y0), (2, .ref (ga g [30]))] := hl
  refine lv_aload_n hx hb dL_isWaiting_0 rfl (lv_at hl 2 rfl) ?_
  refine lv_iconst (v := 0) hx hb dL_isWaiting_1 (by decide) ?_
  refine lv_aload_n hx hb dL_isWaiting_2 rfl (lv_at hl 0 rfl) ?_
  refine lv_iload_n hx hb dL_isWaiting_3 rfl (lv_at hl 1 rfl) ?_
  refine x_V1 hx hb hml hown hE hS hl.1 cyX6_isWaiting tw805 hM ⟨Nat.le_refl _, Nat.le_refl _⟩ ⟨Nat.le_of_eq (Nat.zero_add _), Nat.le_of_eq (Nat.zero_add _)⟩ (x_recv hK hH (id := [0]) hd0 (ci := 6) rfl (by decide) rfl) hH rfl rfl (Nat.le_of_ble_eq_true rfl) dL_isWaiting_4 (fun H locs hH hS => ?_)
  rcases hv with hv | hv
  · skip
    refine lv_if_eq (tgt := 14) hx hb dL_isWaiting_7 (by decide) (fun _ => ?_) (fun q_ => absurd hv q_)
    refine lv_lconst (v := 0) hx hb dL_isWaiting_14 (by decide) ?_
    refine x_last hx hb hK hH hS hd30 (show (0 : Int64) = v.toInt64 by rw [hv]; rfl) dL_isWaiting_15 (fun H locs hH hS => ?_)
    refine lv_goto (tgt := 22) hx hb dL_isWaiting_16 (by decide) ?_
    refine lv_iconst (v := 0) hx hb dL_isWaiting_22 (by decide) ?_
    refine W.widen (k := mc) (n := ms) (by omega) (by omega) ?_
    exact x_iret hx hb hr hlocks hS dL_isWaiting_23 rfl hH
  · skip
    refine lv_if_eq (tgt := 14) hx hb dL_isWaiting_7 (by decide) (fun q_ => absurd q_ (by rw [hv]; decide)) (fun _ => ?_)
    refine lv_lconst (v := 1) hx hb dL_isWaiting_10 (by decide) ?_
    refine lv_goto (tgt := 15) hx hb dL_isWaiting_11 (by decide) ?_
    refine x_last hx hb hK hH hS hd30 (show (1 : Int64) = v.toInt64 by rw [hv]; rfl) dL_isWaiting_15 (fun H locs hH hS => ?_)
    refine lv_goto (tgt := 22) hx hb dL_isWaiting_16 (by decide) ?_
    refine lv_iconst (v := 0) hx hb dL_isWaiting_22 (by decide) ?_
    refine W.widen (k := mc) (n := ms) (by omega) (by omega) ?_
    exact x_iret hx hb hr hlocks hS dL_isWaiting_23 rfl hH

set_option maxHeartbeats 1000000 in
set_option maxRecDepth 100000 in
theorem w_isWaiting_eIO (l : Launch) (g : xG) (dm : List Nat → Prop) (I : xI) (F : xF) (n fr lo : Nat) (y0 : Int32) (hd0 : dm [0]) (hT : xTc l yX6_isWaiting (xws yX6_isWaiting cX6_isWaiting 2 (some FieldType.boolean)) fr lo g [.ref (ga g [0]), .int y0] (xR g dm I F n) eIO (xG_ g dm I F n) 1 6) : xMl l yL_isWaiting cL_isWaiting 4 (some FieldType.int) [(0, 16, 19, 19)] (fr + 1) (8 + (2 + 11) + lo) g [.ref (ga g [0]), .int y0, .ref (ga g [30])] (xR g dm I F n) (some (.int 1)) (xG_ g dm I F n) 1 6 := by
  refine xMl.of (by decide) (Nat.le_of_ble_eq_true rfl) ?_
  intro P_ e_ s m_ bl_ mt_ cd_ ls hx hb hr hown hlocks hml htab hE hK hts hH hS hl hLs
  have hl : lv_has ls 4 [(0, .ref (ga g [0])), (1, .int y0), (2, .ref (ga g [30]))] := hl
  refine lv_aload_n hx hb dL_isWaiting_0 rfl (lv_at hl 2 rfl) ?_
  refine lv_iconst (v := 0) hx hb dL_isWaiting_1 (by decide) ?_
  refine lv_aload_n hx hb dL_isWaiting_2 rfl (lv_at hl 0 rfl) ?_
  refine lv_iload_n hx hb dL_isWaiting_3 rfl (lv_at hl 1 rfl) ?_
  refine x_contT (x_VT hx hb hml hown hE hS hl.1 cyX6_isWaiting tw805 hT ⟨Nat.le_refl _, Nat.le_refl _⟩ ⟨Nat.le_of_eq (Nat.zero_add _), Nat.le_of_eq (Nat.zero_add _)⟩ (x_recv hK hH (id := [0]) hd0 (ci := 6) rfl (by decide) rfl) hH rfl rfl (Nat.le_of_ble_eq_true rfl) dL_isWaiting_4) hS (fun ce q9 H1 locs1 hp1 hS1 hce hcv hcl => ?_)
  refine x_catch hown hE htab [] ⟨0, 16, 19, 19⟩ [] rfl (fun z hz => absurd hz List.not_mem_nil) rfl (by decide) tw247 cfIO hce hcv hcl ?_
  refine lv_astore_n (lv' := [(3, .ref q9), (0, .ref (ga g [0])), (1, .int y0), (2, .ref (ga g [30]))]) hx hb dL_isWaiting_19 rfl hl (by decide) rfl (fun ls hl => ?_)
  refine lv_iconst (v := 1) hx hb dL_isWaiting_20 (by decide) ?_
  refine W.widen (k := 1) (n := 6) (by omega) (by omega) ?_
  exact x_iret hx hb hr hlocks hS1 dL_isWaiting_21 rfl hp1

set_option maxHeartbeats 1000000 in
set_option maxRecDepth 100000 in
theorem w_happened (l : Launch) (g : xG) (dm dm2 : List Nat → Prop) (I I2 : xI) (F F2 : xF) (n n2 fr lo mc ms : Nat) (y0 : Int32) (v : Int32) (hd0 : dm [0]) (hd30 : dm2 [30]) (hM : xM l yX6_happened (xws yX6_happened cX6_happened 2 (some FieldType.int)) fr lo g [.ref (ga g [0]), .int y0] (xR g dm I F n) (some (.int v)) (xR g dm2 I2 F2 n2) mc ms) : xMl l yL_happened cL_happened 4 (some FieldType.int) [(0, 9, 12, 19)] (fr + 1) (8 + (2 + 11) + lo) g [.ref (ga g [0]), .int y0, .ref (ga g [30])] (xR g dm I F n) (some (.int 0)) (xR g dm2 (up I2 [30] 0 v) F2 n2) mc ms := by
  refine xMl.of (by decide) (Nat.le_of_ble_eq_true rfl) ?_
  intro P_ e_ s m_ bl_ mt_ cd_ ls hx hb hr hown hlocks hml htab hE hK hts hH hS hl hLs
  have hl : lv_has ls 4 [(0, .ref (ga g [0])), (1, .int y0), (2, .ref (ga g [30]))] := hl
  refine lv_aload_n hx hb dL_happened_0 rfl (lv_at hl 2 rfl) ?_
  refine lv_iconst (v := 0) hx hb dL_happened_1 (by decide) ?_
  refine lv_aload_n hx hb dL_happened_2 rfl (lv_at hl 0 rfl) ?_
  refine lv_iload_n hx hb dL_happened_3 rfl (lv_at hl 1 rfl) ?_
  refine x_V1 hx hb hml hown hE hS hl.1 cyX6_happened tw812 hM ⟨Nat.le_refl _, Nat.le_refl _⟩ ⟨Nat.le_of_eq (Nat.zero_add _), Nat.le_of_eq (Nat.zero_add _)⟩ (x_recv hK hH (id := [0]) hd0 (ci := 6) rfl (by decide) rfl) hH rfl rfl (Nat.le_of_ble_eq_true rfl) dL_happened_4 (fun H locs hH hS => ?_)
  refine lv_i2l hx hb dL_happened_7 rfl ?_
  refine x_last hx hb hK hH hS hd30 rfl dL_happened_8 (fun H locs hH hS => ?_)
  refine lv_goto (tgt := 15) hx hb dL_happened_9 (by decide) ?_
  refine lv_iconst (v := 0) hx hb dL_happened_15 (by decide) ?_
  refine W.widen (k := mc) (n := ms) (by omega) (by omega) ?_
  exact x_iret hx hb hr hlocks hS dL_happened_16 rfl hH

set_option maxHeartbeats 1000000 in
set_option maxRecDepth 100000 in
theorem w_happened_eIO (l : Launch) (g : xG) (dm : List Nat → Prop) (I : xI) (F : xF) (n fr lo : Nat) (y0 : Int32) (hd0 : dm [0]) (hT : xTc l yX6_happened (xws yX6_happened cX6_happened 2 (some FieldType.int)) fr lo g [.ref (ga g [0]), .int y0] (xR g dm I F n) eIO (xG_ g dm I F n) 1 6) : xMl l yL_happened cL_happened 4 (some FieldType.int) [(0, 9, 12, 19)] (fr + 1) (8 + (2 + 11) + lo) g [.ref (ga g [0]), .int y0, .ref (ga g [30])] (xR g dm I F n) (some (.int 1)) (xG_ g dm I F n) 1 6 := by
  refine xMl.of (by decide) (Nat.le_of_ble_eq_true rfl) ?_
  intro P_ e_ s m_ bl_ mt_ cd_ ls hx hb hr hown hlocks hml htab hE hK hts hH hS hl hLs
  have hl : lv_has ls 4 [(0, .ref (ga g [0])), (1, .int y0), (2, .ref (ga g [30]))] := hl
  refine lv_aload_n hx hb dL_happened_0 rfl (lv_at hl 2 rfl) ?_
  refine lv_iconst (v := 0) hx hb dL_happened_1 (by decide) ?_
  refine lv_aload_n hx hb dL_happened_2 rfl (lv_at hl 0 rfl) ?_
  refine lv_iload_n hx hb dL_happened_3 rfl (lv_at hl 1 rfl) ?_
  refine x_contT (x_VT hx hb hml hown hE hS hl.1 cyX6_happened tw812 hT ⟨Nat.le_refl _, Nat.le_refl _⟩ ⟨Nat.le_of_eq (Nat.zero_add _), Nat.le_of_eq (Nat.zero_add _)⟩ (x_recv hK hH (id := [0]) hd0 (ci := 6) rfl (by decide) rfl) hH rfl rfl (Nat.le_of_ble_eq_true rfl) dL_happened_4) hS (fun ce q9 H1 locs1 hp1 hS1 hce hcv hcl => ?_)
  refine x_catch hown hE htab [] ⟨0, 9, 12, 19⟩ [] rfl (fun z hz => absurd hz List.not_mem_nil) rfl (by decide) tw247 cfIO hce hcv hcl ?_
  refine lv_astore_n (lv' := [(3, .ref q9), (0, .ref (ga g [0])), (1, .int y0), (2, .ref (ga g [30]))]) hx hb dL_happened_12 rfl hl (by decide) rfl (fun ls hl => ?_)
  refine lv_iconst (v := 1) hx hb dL_happened_13 (by decide) ?_
  refine W.widen (k := 1) (n := 6) (by omega) (by omega) ?_
  exact x_iret hx hb hr hlocks hS1 dL_happened_14 rfl hp1

set_option maxHeartbeats 1000000 in
set_option maxRecDepth 100000 in
theorem w_doneShare (l : Launch) (g : xG) (dm dm2 : List Nat → Prop) (I I2 : xI) (F F2 : xF) (n n2 fr lo mc ms : Nat) (y0 : Int32) (v : Int32) (hnn : vf_n64 (FP.f2d v.toUInt32)) (hd0 : dm [0]) (hd30 : dm2 [31]) (hM : xM l yX6_doneShare (xws yX6_doneShare cX6_doneShare 4 (some FieldType.float)) fr lo g [.ref (ga g [0]), .int y0] (xR g dm I F n) (some (.float v.toUInt32)) (xR g dm2 I2 F2 n2) mc ms) : xMl l yL_doneShare cL_doneShare 4 (some FieldType.int) [(0, 9, 12, 19)] (fr + 1) (8 + (4 + 11) + lo) g [.ref (ga g [0]), .int y0, .ref (ga g [31])] (xR g dm I F n) (some (.int 0)) (xR g dm2 (up I2 [31] 0 v) F2 n2) mc ms := by
  refine xMl.of (by decide) (Nat.le_of_ble_eq_true rfl) ?_
  intro P_ e_ s m_ bl_ mt_ cd_ ls hx hb hr hown hlocks hml htab hE hK hts hH hS hl hLs
  have hl : lv_has ls 4 [(0, .ref (ga g [0])), (1, .int y0), (2, .ref (ga g [31]))] := hl
  refine lv_aload_n hx hb dL_doneShare_0 rfl (lv_at hl 2 rfl) ?_
  refine lv_iconst (v := 0) hx hb dL_doneShare_1 (by decide) ?_
  refine lv_aload_n hx hb dL_doneShare_2 rfl (lv_at hl 0 rfl) ?_
  refine lv_iload_n hx hb dL_doneShare_3 rfl (lv_at hl 1 rfl) ?_
  refine x_V1 hx hb hml hown hE hS hl.1 cyX6_doneShare tw819 hM ⟨Nat.le_refl _, Nat.le_refl _⟩ ⟨Nat.le_of_eq (Nat.zero_add _), Nat.le_of_eq (Nat.zero_add _)⟩ (x_recv hK hH (id := [0]) hd0 (ci := 6) rfl (by decide) rfl) hH rfl rfl (Nat.le_of_ble_eq_true rfl) dL_doneShare_4 (fun H locs hH hS => ?_)
  refine lv_f2d hx hb dL_doneShare_7 hnn ?_
  refine x_dast hx hb hK hH hS hd30 rfl dL_doneShare_8 (fun H locs hH hS => ?_)
  refine lv_goto (tgt := 15) hx hb dL_doneShare_9 (by decide) ?_
  refine lv_iconst (v := 0) hx hb dL_doneShare_15 (by decide) ?_
  refine W.widen (k := mc) (n := ms) (by omega) (by omega) ?_
  exact x_iret hx hb hr hlocks hS dL_doneShare_16 rfl hH

set_option maxHeartbeats 1000000 in
set_option maxRecDepth 100000 in
theorem w_doneShare_eIO (l : Launch) (g : xG) (dm : List Nat → Prop) (I : xI) (F : xF) (n fr lo : Nat) (y0 : Int32) (hd0 : dm [0]) (hT : xTc l yX6_doneShare (xws yX6_doneShare cX6_doneShare 4 (some FieldType.float)) fr lo g [.ref (ga g [0]), .int y0] (xR g dm I F n) eIO (xG_ g dm I F n) 1 6) : xMl l yL_doneShare cL_doneShare 4 (some FieldType.int) [(0, 9, 12, 19)] (fr + 1) (8 + (4 + 11) + lo) g [.ref (ga g [0]), .int y0, .ref (ga g [31])] (xR g dm I F n) (some (.int 1)) (xG_ g dm I F n) 1 6 := by
  refine xMl.of (by decide) (Nat.le_of_ble_eq_true rfl) ?_
  intro P_ e_ s m_ bl_ mt_ cd_ ls hx hb hr hown hlocks hml htab hE hK hts hH hS hl hLs
  have hl : lv_has ls 4 [(0, .ref (ga g [0])), (1, .int y0), (2, .ref (ga g [31]))] := hl
  refine lv_aload_n hx hb dL_doneShare_0 rfl (lv_at hl 2 rfl) ?_
  refine lv_iconst (v := 0) hx hb dL_doneShare_1 (by decide) ?_
  refine lv_aload_n hx hb dL_doneShare_2 rfl (lv_at hl 0 rfl) ?_
  refine lv_iload_n hx hb dL_doneShare_3 rfl (lv_at hl 1 rfl) ?_
  refine x_contT (x_VT hx hb hml hown hE hS hl.1 cyX6_doneShare tw819 hT ⟨Nat.le_refl _, Nat.le_refl _⟩ ⟨Nat.le_of_eq (Nat.zero_add _), Nat.le_of_eq (Nat.zero_add _)⟩ (x_recv hK hH (id := [0]) hd0 (ci := 6) rfl (by decide) rfl) hH rfl rfl (Nat.le_of_ble_eq_true rfl) dL_doneShare_4) hS (fun ce q9 H1 locs1 hp1 hS1 hce hcv hcl => ?_)
  refine x_catch hown hE htab [] ⟨0, 9, 12, 19⟩ [] rfl (fun z hz => absurd hz List.not_mem_nil) rfl (by decide) tw247 cfIO hce hcv hcl ?_
  refine lv_astore_n (lv' := [(3, .ref q9), (0, .ref (ga g [0])), (1, .int y0), (2, .ref (ga g [31]))]) hx hb dL_doneShare_12 rfl hl (by decide) rfl (fun ls hl => ?_)
  refine lv_iconst (v := 1) hx hb dL_doneShare_13 (by decide) ?_
  refine W.widen (k := 1) (n := 6) (by omega) (by omega) ?_
  exact x_iret hx hb hr hlocks hS1 dL_doneShare_14 rfl hp1
