/-! CONTRACTS: the law's own methods, over what the class's answer or throw -/
set_option maxHeartbeats 1000000 in
set_option maxRecDepth 100000 in
theorem w_plan (l : Launch) (g : xG) (dm : List Nat → Prop) (I : xI) (F : xF) (n fr lo mc ms mc' ms' : Nat) (v : Int32) (Post Post' : Heap → Prop) (hd0 : dm [0]) (hmc : mc ≤ mc' ∧ ms ≤ ms') (hpp : ∀ H, Post H → Post' H) (hM : xM l yX6_addPlan (xws yX6_addPlan cX6_addPlan 2 (some FieldType.int)) fr lo g [.ref (ga g [0])] (xR g dm I F n) (some (.int v)) Post mc ms) : xMl l yL_plan cL_plan 2 (some FieldType.int) [(0, 4, 5, 13)] (fr + 1) (8 + (2 + 11) + lo) g [.ref (ga g [0])] (xR g dm I F n) (some (.int v)) Post' mc' ms' := by
  refine xMl.of (by decide) (Nat.le_of_ble_eq_true rfl) ?_
  intro P_ e_ s m_ bl_ mt_ cd_ ls hx hb hr hown hlocks hml htab hE hK hts hH hS hl
  have hl : lv_has ls 2 [(0, .ref (ga g [0]))] := hl
  refine lv_aload_n hx hb dL_plan_0 rfl (lv_at hl 0 rfl) ?_
  refine x_V1 hx hb hml hown hE hS hl.1 cyX6_addPlan tw164 hM ⟨Nat.le_refl _, Nat.le_refl _⟩ ⟨(Nat.zero_add mc).symm ▸ hmc.1, (Nat.zero_add ms).symm ▸ hmc.2⟩ (x_recv hK hH (id := [0]) hd0 (ci := 6) rfl (by decide) rfl) hH rfl rfl (Nat.le_of_ble_eq_true rfl) dL_plan_1 (fun H locs hP hS => ?_)
  refine W.widen (k := mc') (n := ms') (by omega) (by omega) ?_
  exact x_iret hx hb hr hlocks hS dL_plan_4 rfl (hpp _ hP)

set_option maxHeartbeats 1000000 in
set_option maxRecDepth 100000 in
theorem w_plan_eIS (l : Launch) (g : xG) (dm : List Nat → Prop) (I : xI) (F : xF) (n fr lo : Nat) (hd0 : dm [0]) (hT : xTc l yX6_addPlan (xws yX6_addPlan cX6_addPlan 2 (some FieldType.int)) fr lo g [.ref (ga g [0])] (xR g dm I F n) eIS (xG_ g dm I F n) 1 6) : xMl l yL_plan cL_plan 2 (some FieldType.int) [(0, 4, 5, 13)] (fr + 1) (8 + (2 + 11) + lo) g [.ref (ga g [0])] (xR g dm I F n) (some (.int (-1001))) (xG_ g dm I F n) 1 6 := by
  refine xMl.of (by decide) (Nat.le_of_ble_eq_true rfl) ?_
  intro P_ e_ s m_ bl_ mt_ cd_ ls hx hb hr hown hlocks hml htab hE hK hts hH hS hl
  have hl : lv_has ls 2 [(0, .ref (ga g [0]))] := hl
  refine lv_aload_n hx hb dL_plan_0 rfl (lv_at hl 0 rfl) ?_
  refine x_contT (x_VT hx hb hml hown hE hS hl.1 cyX6_addPlan tw164 hT ⟨Nat.le_refl _, Nat.le_refl _⟩ ⟨Nat.le_of_eq (Nat.zero_add _), Nat.le_of_eq (Nat.zero_add _)⟩ (x_recv hK hH (id := [0]) hd0 (ci := 6) rfl (by decide) rfl) hH rfl rfl (Nat.le_of_ble_eq_true rfl) dL_plan_1) hS (fun ce q9 H1 locs1 hp1 hS1 hce hcv hcl => ?_)
  refine x_catch hown hE htab [] ⟨0, 4, 5, 13⟩ [] rfl (fun z hz => absurd hz List.not_mem_nil) rfl (by decide) tw163 cfIS hce hcv hcl ?_
  refine lv_astore_n (lv' := [(1, .ref q9), (0, .ref (ga g [0]))]) hx hb dL_plan_5 rfl hl (by decide) rfl (fun ls hl => ?_)
  refine lv_sipush (v := (-1001)) hx hb dL_plan_6 (by decide) ?_
  refine W.widen (k := 1) (n := 6) (by omega) (by omega) ?_
  exact x_iret hx hb hr hlocks hS1 dL_plan_9 rfl hp1

set_option maxHeartbeats 1000000 in
set_option maxRecDepth 100000 in
theorem w_step (l : Launch) (g : xG) (dm : List Nat → Prop) (I : xI) (F : xF) (n fr lo mc ms mc' ms' : Nat) (y0 y1 y2 : Int32) (v : Int32) (Post Post' : Heap → Prop) (hd0 : dm [0]) (hmc : mc ≤ mc' ∧ ms ≤ ms') (hpp : ∀ H, Post H → Post' H) (hM : xM l yX6_addStep (xws yX6_addStep cX6_addStep 5 (some FieldType.int)) fr lo g [.ref (ga g [0]), .int y0, .int y1, .int y2] (xR g dm I F n) (some (.int v)) Post mc ms) : xMl l yL_step cL_step 5 (some FieldType.int) [(0, 7, 8, 19), (0, 7, 14, 21), (0, 7, 20, 13)] (fr + 1) (8 + (5 + 11) + lo) g [.ref (ga g [0]), .int y0, .int y1, .int y2] (xR g dm I F n) (some (.int v)) Post' mc' ms' := by
  refine xMl.of (by decide) (Nat.le_of_ble_eq_true rfl) ?_
  intro P_ e_ s m_ bl_ mt_ cd_ ls hx hb hr hown hlocks hml htab hE hK hts hH hS hl
  have hl : lv_has ls 5 [(0, .ref (ga g [0])), (1, .int y0), (2, .int y1), (3, .int y2)] := hl
  refine lv_aload_n hx hb dL_step_0 rfl (lv_at hl 0 rfl) ?_
  refine lv_iload_n hx hb dL_step_1 rfl (lv_at hl 1 rfl) ?_
  refine lv_iload_n hx hb dL_step_2 rfl (lv_at hl 2 rfl) ?_
  refine lv_iload_n hx hb dL_step_3 rfl (lv_at hl 3 rfl) ?_
  refine x_V1 hx hb hml hown hE hS hl.1 cyX6_addStep tw243 hM ⟨Nat.le_refl _, Nat.le_refl _⟩ ⟨(Nat.zero_add mc).symm ▸ hmc.1, (Nat.zero_add ms).symm ▸ hmc.2⟩ (x_recv hK hH (id := [0]) hd0 (ci := 6) rfl (by decide) rfl) hH rfl rfl (Nat.le_of_ble_eq_true rfl) dL_step_4 (fun H locs hP hS => ?_)
  refine W.widen (k := mc') (n := ms') (by omega) (by omega) ?_
  exact x_iret hx hb hr hlocks hS dL_step_7 rfl (hpp _ hP)

set_option maxHeartbeats 1000000 in
set_option maxRecDepth 100000 in
theorem w_step_eIO (l : Launch) (g : xG) (dm : List Nat → Prop) (I : xI) (F : xF) (n fr lo : Nat) (y0 y1 y2 : Int32) (hd0 : dm [0]) (hT : xTc l yX6_addStep (xws yX6_addStep cX6_addStep 5 (some FieldType.int)) fr lo g [.ref (ga g [0]), .int y0, .int y1, .int y2] (xR g dm I F n) eIO (xG_ g dm I F n) 1 6) : xMl l yL_step cL_step 5 (some FieldType.int) [(0, 7, 8, 19), (0, 7, 14, 21), (0, 7, 20, 13)] (fr + 1) (8 + (5 + 11) + lo) g [.ref (ga g [0]), .int y0, .int y1, .int y2] (xR g dm I F n) (some (.int (-1001))) (xG_ g dm I F n) 1 6 := by
  refine xMl.of (by decide) (Nat.le_of_ble_eq_true rfl) ?_
  intro P_ e_ s m_ bl_ mt_ cd_ ls hx hb hr hown hlocks hml htab hE hK hts hH hS hl
  have hl : lv_has ls 5 [(0, .ref (ga g [0])), (1, .int y0), (2, .int y1), (3, .int y2)] := hl
  refine lv_aload_n hx hb dL_step_0 rfl (lv_at hl 0 rfl) ?_
  refine lv_iload_n hx hb dL_step_1 rfl (lv_at hl 1 rfl) ?_
  refine lv_iload_n hx hb dL_step_2 rfl (lv_at hl 2 rfl) ?_
  refine lv_iload_n hx hb dL_step_3 rfl (lv_at hl 3 rfl) ?_
  refine x_contT (x_VT hx hb hml hown hE hS hl.1 cyX6_addStep tw243 hT ⟨Nat.le_refl _, Nat.le_refl _⟩ ⟨Nat.le_of_eq (Nat.zero_add _), Nat.le_of_eq (Nat.zero_add _)⟩ (x_recv hK hH (id := [0]) hd0 (ci := 6) rfl (by decide) rfl) hH rfl rfl (Nat.le_of_ble_eq_true rfl) dL_step_4) hS (fun ce q9 H1 locs1 hp1 hS1 hce hcv hcl => ?_)
  refine x_catch hown hE htab [] ⟨0, 7, 8, 19⟩ [⟨0, 7, 14, 21⟩, ⟨0, 7, 20, 13⟩] rfl (fun z hz => absurd hz List.not_mem_nil) rfl (by decide) tw241 cfIO hce hcv hcl ?_
  refine lv_astore (lv' := [(4, .ref q9), (0, .ref (ga g [0])), (1, .int y0), (2, .int y1), (3, .int y2)]) hx hb dL_step_8 hl (by decide) rfl (fun ls hl => ?_)
  refine lv_sipush (v := (-1001)) hx hb dL_step_10 (by decide) ?_
  refine W.widen (k := 1) (n := 6) (by omega) (by omega) ?_
  exact x_iret hx hb hr hlocks hS1 dL_step_13 rfl hp1

set_option maxHeartbeats 1000000 in
set_option maxRecDepth 100000 in
theorem w_step_eIA (l : Launch) (g : xG) (dm : List Nat → Prop) (I : xI) (F : xF) (n fr lo : Nat) (y0 y1 y2 : Int32) (hd0 : dm [0]) (hT : xTc l yX6_addStep (xws yX6_addStep cX6_addStep 5 (some FieldType.int)) fr lo g [.ref (ga g [0]), .int y0, .int y1, .int y2] (xR g dm I F n) eIA (xG_ g dm I F n) 1 6) : xMl l yL_step cL_step 5 (some FieldType.int) [(0, 7, 8, 19), (0, 7, 14, 21), (0, 7, 20, 13)] (fr + 1) (8 + (5 + 11) + lo) g [.ref (ga g [0]), .int y0, .int y1, .int y2] (xR g dm I F n) (some (.int (-1002))) (xG_ g dm I F n) 1 6 := by
  refine xMl.of (by decide) (Nat.le_of_ble_eq_true rfl) ?_
  intro P_ e_ s m_ bl_ mt_ cd_ ls hx hb hr hown hlocks hml htab hE hK hts hH hS hl
  have hl : lv_has ls 5 [(0, .ref (ga g [0])), (1, .int y0), (2, .int y1), (3, .int y2)] := hl
  refine lv_aload_n hx hb dL_step_0 rfl (lv_at hl 0 rfl) ?_
  refine lv_iload_n hx hb dL_step_1 rfl (lv_at hl 1 rfl) ?_
  refine lv_iload_n hx hb dL_step_2 rfl (lv_at hl 2 rfl) ?_
  refine lv_iload_n hx hb dL_step_3 rfl (lv_at hl 3 rfl) ?_
  refine x_contT (x_VT hx hb hml hown hE hS hl.1 cyX6_addStep tw243 hT ⟨Nat.le_refl _, Nat.le_refl _⟩ ⟨Nat.le_of_eq (Nat.zero_add _), Nat.le_of_eq (Nat.zero_add _)⟩ (x_recv hK hH (id := [0]) hd0 (ci := 6) rfl (by decide) rfl) hH rfl rfl (Nat.le_of_ble_eq_true rfl) dL_step_4) hS (fun ce q9 H1 locs1 hp1 hS1 hce hcv hcl => ?_)
  refine x_catch hown hE htab [⟨0, 7, 8, 19⟩] ⟨0, 7, 14, 21⟩ [⟨0, 7, 20, 13⟩] rfl (fun z hz => by
        simp only [List.mem_cons, List.not_mem_nil, or_false] at hz
        rcases hz with rfl
        exact Or.inr ⟨by decide, _, tw241, hE.ls _ (List.mem_of_getElem? (i := 4) rfl)⟩) rfl (by decide) tw242 cfIA hce hcv hcl ?_
  refine lv_astore (lv' := [(4, .ref q9), (0, .ref (ga g [0])), (1, .int y0), (2, .int y1), (3, .int y2)]) hx hb dL_step_14 hl (by decide) rfl (fun ls hl => ?_)
  refine lv_sipush (v := (-1002)) hx hb dL_step_16 (by decide) ?_
  refine W.widen (k := 1) (n := 6) (by omega) (by omega) ?_
  exact x_iret hx hb hr hlocks hS1 dL_step_19 rfl hp1

set_option maxHeartbeats 1000000 in
set_option maxRecDepth 100000 in
theorem w_step_eIS (l : Launch) (g : xG) (dm : List Nat → Prop) (I : xI) (F : xF) (n fr lo : Nat) (y0 y1 y2 : Int32) (hd0 : dm [0]) (hT : xTc l yX6_addStep (xws yX6_addStep cX6_addStep 5 (some FieldType.int)) fr lo g [.ref (ga g [0]), .int y0, .int y1, .int y2] (xR g dm I F n) eIS (xG_ g dm I F n) 1 6) : xMl l yL_step cL_step 5 (some FieldType.int) [(0, 7, 8, 19), (0, 7, 14, 21), (0, 7, 20, 13)] (fr + 1) (8 + (5 + 11) + lo) g [.ref (ga g [0]), .int y0, .int y1, .int y2] (xR g dm I F n) (some (.int (-1003))) (xG_ g dm I F n) 1 6 := by
  refine xMl.of (by decide) (Nat.le_of_ble_eq_true rfl) ?_
  intro P_ e_ s m_ bl_ mt_ cd_ ls hx hb hr hown hlocks hml htab hE hK hts hH hS hl
  have hl : lv_has ls 5 [(0, .ref (ga g [0])), (1, .int y0), (2, .int y1), (3, .int y2)] := hl
  refine lv_aload_n hx hb dL_step_0 rfl (lv_at hl 0 rfl) ?_
  refine lv_iload_n hx hb dL_step_1 rfl (lv_at hl 1 rfl) ?_
  refine lv_iload_n hx hb dL_step_2 rfl (lv_at hl 2 rfl) ?_
  refine lv_iload_n hx hb dL_step_3 rfl (lv_at hl 3 rfl) ?_
  refine x_contT (x_VT hx hb hml hown hE hS hl.1 cyX6_addStep tw243 hT ⟨Nat.le_refl _, Nat.le_refl _⟩ ⟨Nat.le_of_eq (Nat.zero_add _), Nat.le_of_eq (Nat.zero_add _)⟩ (x_recv hK hH (id := [0]) hd0 (ci := 6) rfl (by decide) rfl) hH rfl rfl (Nat.le_of_ble_eq_true rfl) dL_step_4) hS (fun ce q9 H1 locs1 hp1 hS1 hce hcv hcl => ?_)
  refine x_catch hown hE htab [⟨0, 7, 8, 19⟩, ⟨0, 7, 14, 21⟩] ⟨0, 7, 20, 13⟩ [] rfl (fun z hz => by
        simp only [List.mem_cons, List.not_mem_nil, or_false] at hz
        rcases hz with rfl | rfl
        · exact Or.inr ⟨by decide, _, tw241, hE.ls _ (List.mem_of_getElem? (i := 3) rfl)⟩
        · exact Or.inr ⟨by decide, _, tw242, hE.ls _ (List.mem_of_getElem? (i := 7) rfl)⟩) rfl (by decide) tw163 cfIS hce hcv hcl ?_
  refine lv_astore (lv' := [(4, .ref q9), (0, .ref (ga g [0])), (1, .int y0), (2, .int y1), (3, .int y2)]) hx hb dL_step_20 hl (by decide) rfl (fun ls hl => ?_)
  refine lv_sipush (v := (-1003)) hx hb dL_step_22 (by decide) ?_
  refine W.widen (k := 1) (n := 6) (by omega) (by omega) ?_
  exact x_iret hx hb hr hlocks hS1 dL_step_25 rfl hp1

set_option maxHeartbeats 1000000 in
set_option maxRecDepth 100000 in
theorem w_condition1 (l : Launch) (g : xG) (dm : List Nat → Prop) (I : xI) (F : xF) (n fr lo mc ms mc' ms' : Nat) (y0 y1 y2 : Int32) (v : Int32) (Post Post' : Heap → Prop) (hd0 : dm [0]) (z : List Nat) (hdz : dm z) (hkz : xk z = (10, 2)) (hmc : mc ≤ mc' ∧ ms ≤ ms') (hpp : ∀ H, Post H → Post' H) (hM : xM l yX6_addEntry (xws yX6_addEntry cX6_addEntry 8 (some FieldType.int)) fr lo g [.ref (ga g [0]), .int y0, .int y1, .int y2, .int (I z 0), .int (I z 1)] (xR g dm I F n) (some (.int v)) Post mc ms) : xMl l yL_condition cL_condition 7 (some FieldType.int) [(0, 39, 40, 19), (0, 39, 46, 21), (0, 39, 52, 30), (0, 39, 58, 13)] (fr + 1) (8 + (8 + 11) + lo) g [.ref (ga g [0]), .int y0, .int y1, .int 1, .int y2, .ref (ga g z)] (xR g dm I F n) (some (.int v)) Post' mc' ms' := by
  refine xMl.of (by decide) (Nat.le_of_ble_eq_true rfl) ?_
  intro P_ e_ s m_ bl_ mt_ cd_ ls hx hb hr hown hlocks hml htab hE hK hts hH hS hl
  have hl : lv_has ls 7 [(0, .ref (ga g [0])), (1, .int y0), (2, .int y1), (3, .int 1), (4, .int y2), (5, .ref (ga g z))] := hl
  refine lv_iload_n hx hb dL_condition_0 rfl (lv_at hl 3 rfl) ?_
  refine lv_if_eq (tgt := 23) hx hb dL_condition_1 (by decide) (fun q_ => absurd q_ (by decide)) (fun _ => ?_)
  refine lv_aload_n hx hb dL_condition_4 rfl (lv_at hl 0 rfl) ?_
  refine lv_iload_n hx hb dL_condition_5 rfl (lv_at hl 1 rfl) ?_
  refine lv_iload_n hx hb dL_condition_6 rfl (lv_at hl 2 rfl) ?_
  refine lv_iload hx hb dL_condition_7 (lv_at hl 4 rfl) ?_
  refine lv_aload hx hb dL_condition_9 (lv_at hl 5 rfl) ?_
  refine lv_iconst (v := 0) hx hb dL_condition_11 (by decide) ?_
  refine x_iald hx hb hK hH (id := z) hdz hkz rfl 0 rfl (by decide) (by decide) dL_condition_12 ?_
  refine lv_aload hx hb dL_condition_13 (lv_at hl 5 rfl) ?_
  refine lv_iconst (v := 1) hx hb dL_condition_15 (by decide) ?_
  refine x_iald hx hb hK hH (id := z) hdz hkz rfl 1 rfl (by decide) (by decide) dL_condition_16 ?_
  refine x_V1 hx hb hml hown hE hS hl.1 cyX6_addEntry tw368 hM ⟨Nat.le_refl _, Nat.le_refl _⟩ ⟨(Nat.zero_add mc).symm ▸ hmc.1, (Nat.zero_add ms).symm ▸ hmc.2⟩ (x_recv hK hH (id := [0]) hd0 (ci := 6) rfl (by decide) rfl) hH rfl rfl (Nat.le_of_ble_eq_true rfl) dL_condition_17 (fun H locs hP hS => ?_)
  refine lv_goto (tgt := 39) hx hb dL_condition_20 (by decide) ?_
  refine W.widen (k := mc') (n := ms') (by omega) (by omega) ?_
  exact x_iret hx hb hr hlocks hS dL_condition_39 rfl (hpp _ hP)

set_option maxHeartbeats 1000000 in
set_option maxRecDepth 100000 in
theorem w_condition1_eIO (l : Launch) (g : xG) (dm : List Nat → Prop) (I : xI) (F : xF) (n fr lo : Nat) (y0 y1 y2 : Int32) (hd0 : dm [0]) (z : List Nat) (hdz : dm z) (hkz : xk z = (10, 2)) (hT : xTc l yX6_addEntry (xws yX6_addEntry cX6_addEntry 8 (some FieldType.int)) fr lo g [.ref (ga g [0]), .int y0, .int y1, .int y2, .int (I z 0), .int (I z 1)] (xR g dm I F n) eIO (xG_ g dm I F n) 1 6) : xMl l yL_condition cL_condition 7 (some FieldType.int) [(0, 39, 40, 19), (0, 39, 46, 21), (0, 39, 52, 30), (0, 39, 58, 13)] (fr + 1) (8 + (8 + 11) + lo) g [.ref (ga g [0]), .int y0, .int y1, .int 1, .int y2, .ref (ga g z)] (xR g dm I F n) (some (.int (-1001))) (xG_ g dm I F n) 1 6 := by
  refine xMl.of (by decide) (Nat.le_of_ble_eq_true rfl) ?_
  intro P_ e_ s m_ bl_ mt_ cd_ ls hx hb hr hown hlocks hml htab hE hK hts hH hS hl
  have hl : lv_has ls 7 [(0, .ref (ga g [0])), (1, .int y0), (2, .int y1), (3, .int 1), (4, .int y2), (5, .ref (ga g z))] := hl
  refine lv_iload_n hx hb dL_condition_0 rfl (lv_at hl 3 rfl) ?_
  refine lv_if_eq (tgt := 23) hx hb dL_condition_1 (by decide) (fun q_ => absurd q_ (by decide)) (fun _ => ?_)
  refine lv_aload_n hx hb dL_condition_4 rfl (lv_at hl 0 rfl) ?_
  refine lv_iload_n hx hb dL_condition_5 rfl (lv_at hl 1 rfl) ?_
  refine lv_iload_n hx hb dL_condition_6 rfl (lv_at hl 2 rfl) ?_
  refine lv_iload hx hb dL_condition_7 (lv_at hl 4 rfl) ?_
  refine lv_aload hx hb dL_condition_9 (lv_at hl 5 rfl) ?_
  refine lv_iconst (v := 0) hx hb dL_condition_11 (by decide) ?_
  refine x_iald hx hb hK hH (id := z) hdz hkz rfl 0 rfl (by decide) (by decide) dL_condition_12 ?_
  refine lv_aload hx hb dL_condition_13 (lv_at hl 5 rfl) ?_
  refine lv_iconst (v := 1) hx hb dL_condition_15 (by decide) ?_
  refine x_iald hx hb hK hH (id := z) hdz hkz rfl 1 rfl (by decide) (by decide) dL_condition_16 ?_
  refine x_contT (x_VT hx hb hml hown hE hS hl.1 cyX6_addEntry tw368 hT ⟨Nat.le_refl _, Nat.le_refl _⟩ ⟨Nat.le_of_eq (Nat.zero_add _), Nat.le_of_eq (Nat.zero_add _)⟩ (x_recv hK hH (id := [0]) hd0 (ci := 6) rfl (by decide) rfl) hH rfl rfl (Nat.le_of_ble_eq_true rfl) dL_condition_17) hS (fun ce q9 H1 locs1 hp1 hS1 hce hcv hcl => ?_)
  refine x_catch hown hE htab [] ⟨0, 39, 40, 19⟩ [⟨0, 39, 46, 21⟩, ⟨0, 39, 52, 30⟩, ⟨0, 39, 58, 13⟩] rfl (fun z hz => absurd hz List.not_mem_nil) rfl (by decide) tw241 cfIO hce hcv hcl ?_
  refine lv_astore (lv' := [(6, .ref q9), (0, .ref (ga g [0])), (1, .int y0), (2, .int y1), (3, .int 1), (4, .int y2), (5, .ref (ga g z))]) hx hb dL_condition_40 hl (by decide) rfl (fun ls hl => ?_)
  refine lv_sipush (v := (-1001)) hx hb dL_condition_42 (by decide) ?_
  refine W.widen (k := 1) (n := 6) (by omega) (by omega) ?_
  exact x_iret hx hb hr hlocks hS1 dL_condition_45 rfl hp1

set_option maxHeartbeats 1000000 in
set_option maxRecDepth 100000 in
theorem w_condition1_eIA (l : Launch) (g : xG) (dm : List Nat → Prop) (I : xI) (F : xF) (n fr lo : Nat) (y0 y1 y2 : Int32) (hd0 : dm [0]) (z : List Nat) (hdz : dm z) (hkz : xk z = (10, 2)) (hT : xTc l yX6_addEntry (xws yX6_addEntry cX6_addEntry 8 (some FieldType.int)) fr lo g [.ref (ga g [0]), .int y0, .int y1, .int y2, .int (I z 0), .int (I z 1)] (xR g dm I F n) eIA (xG_ g dm I F n) 1 6) : xMl l yL_condition cL_condition 7 (some FieldType.int) [(0, 39, 40, 19), (0, 39, 46, 21), (0, 39, 52, 30), (0, 39, 58, 13)] (fr + 1) (8 + (8 + 11) + lo) g [.ref (ga g [0]), .int y0, .int y1, .int 1, .int y2, .ref (ga g z)] (xR g dm I F n) (some (.int (-1002))) (xG_ g dm I F n) 1 6 := by
  refine xMl.of (by decide) (Nat.le_of_ble_eq_true rfl) ?_
  intro P_ e_ s m_ bl_ mt_ cd_ ls hx hb hr hown hlocks hml htab hE hK hts hH hS hl
  have hl : lv_has ls 7 [(0, .ref (ga g [0])), (1, .int y0), (2, .int y1), (3, .int 1), (4, .int y2), (5, .ref (ga g z))] := hl
  refine lv_iload_n hx hb dL_condition_0 rfl (lv_at hl 3 rfl) ?_
  refine lv_if_eq (tgt := 23) hx hb dL_condition_1 (by decide) (fun q_ => absurd q_ (by decide)) (fun _ => ?_)
  refine lv_aload_n hx hb dL_condition_4 rfl (lv_at hl 0 rfl) ?_
  refine lv_iload_n hx hb dL_condition_5 rfl (lv_at hl 1 rfl) ?_
  refine lv_iload_n hx hb dL_condition_6 rfl (lv_at hl 2 rfl) ?_
  refine lv_iload hx hb dL_condition_7 (lv_at hl 4 rfl) ?_
  refine lv_aload hx hb dL_condition_9 (lv_at hl 5 rfl) ?_
  refine lv_iconst (v := 0) hx hb dL_condition_11 (by decide) ?_
  refine x_iald hx hb hK hH (id := z) hdz hkz rfl 0 rfl (by decide) (by decide) dL_condition_12 ?_
  refine lv_aload hx hb dL_condition_13 (lv_at hl 5 rfl) ?_
  refine lv_iconst (v := 1) hx hb dL_condition_15 (by decide) ?_
  refine x_iald hx hb hK hH (id := z) hdz hkz rfl 1 rfl (by decide) (by decide) dL_condition_16 ?_
  refine x_contT (x_VT hx hb hml hown hE hS hl.1 cyX6_addEntry tw368 hT ⟨Nat.le_refl _, Nat.le_refl _⟩ ⟨Nat.le_of_eq (Nat.zero_add _), Nat.le_of_eq (Nat.zero_add _)⟩ (x_recv hK hH (id := [0]) hd0 (ci := 6) rfl (by decide) rfl) hH rfl rfl (Nat.le_of_ble_eq_true rfl) dL_condition_17) hS (fun ce q9 H1 locs1 hp1 hS1 hce hcv hcl => ?_)
  refine x_catch hown hE htab [⟨0, 39, 40, 19⟩] ⟨0, 39, 46, 21⟩ [⟨0, 39, 52, 30⟩, ⟨0, 39, 58, 13⟩] rfl (fun z hz => by
        simp only [List.mem_cons, List.not_mem_nil, or_false] at hz
        rcases hz with rfl
        exact Or.inr ⟨by decide, _, tw241, hE.ls _ (List.mem_of_getElem? (i := 4) rfl)⟩) rfl (by decide) tw242 cfIA hce hcv hcl ?_
  refine lv_astore (lv' := [(6, .ref q9), (0, .ref (ga g [0])), (1, .int y0), (2, .int y1), (3, .int 1), (4, .int y2), (5, .ref (ga g z))]) hx hb dL_condition_46 hl (by decide) rfl (fun ls hl => ?_)
  refine lv_sipush (v := (-1002)) hx hb dL_condition_48 (by decide) ?_
  refine W.widen (k := 1) (n := 6) (by omega) (by omega) ?_
  exact x_iret hx hb hr hlocks hS1 dL_condition_51 rfl hp1

set_option maxHeartbeats 1000000 in
set_option maxRecDepth 100000 in
theorem w_condition1_eIS (l : Launch) (g : xG) (dm : List Nat → Prop) (I : xI) (F : xF) (n fr lo : Nat) (y0 y1 y2 : Int32) (hd0 : dm [0]) (z : List Nat) (hdz : dm z) (hkz : xk z = (10, 2)) (hT : xTc l yX6_addEntry (xws yX6_addEntry cX6_addEntry 8 (some FieldType.int)) fr lo g [.ref (ga g [0]), .int y0, .int y1, .int y2, .int (I z 0), .int (I z 1)] (xR g dm I F n) eIS (xG_ g dm I F n) 1 6) : xMl l yL_condition cL_condition 7 (some FieldType.int) [(0, 39, 40, 19), (0, 39, 46, 21), (0, 39, 52, 30), (0, 39, 58, 13)] (fr + 1) (8 + (8 + 11) + lo) g [.ref (ga g [0]), .int y0, .int y1, .int 1, .int y2, .ref (ga g z)] (xR g dm I F n) (some (.int (-1004))) (xG_ g dm I F n) 1 6 := by
  refine xMl.of (by decide) (Nat.le_of_ble_eq_true rfl) ?_
  intro P_ e_ s m_ bl_ mt_ cd_ ls hx hb hr hown hlocks hml htab hE hK hts hH hS hl
  have hl : lv_has ls 7 [(0, .ref (ga g [0])), (1, .int y0), (2, .int y1), (3, .int 1), (4, .int y2), (5, .ref (ga g z))] := hl
  refine lv_iload_n hx hb dL_condition_0 rfl (lv_at hl 3 rfl) ?_
  refine lv_if_eq (tgt := 23) hx hb dL_condition_1 (by decide) (fun q_ => absurd q_ (by decide)) (fun _ => ?_)
  refine lv_aload_n hx hb dL_condition_4 rfl (lv_at hl 0 rfl) ?_
  refine lv_iload_n hx hb dL_condition_5 rfl (lv_at hl 1 rfl) ?_
  refine lv_iload_n hx hb dL_condition_6 rfl (lv_at hl 2 rfl) ?_
  refine lv_iload hx hb dL_condition_7 (lv_at hl 4 rfl) ?_
  refine lv_aload hx hb dL_condition_9 (lv_at hl 5 rfl) ?_
  refine lv_iconst (v := 0) hx hb dL_condition_11 (by decide) ?_
  refine x_iald hx hb hK hH (id := z) hdz hkz rfl 0 rfl (by decide) (by decide) dL_condition_12 ?_
  refine lv_aload hx hb dL_condition_13 (lv_at hl 5 rfl) ?_
  refine lv_iconst (v := 1) hx hb dL_condition_15 (by decide) ?_
  refine x_iald hx hb hK hH (id := z) hdz hkz rfl 1 rfl (by decide) (by decide) dL_condition_16 ?_
  refine x_contT (x_VT hx hb hml hown hE hS hl.1 cyX6_addEntry tw368 hT ⟨Nat.le_refl _, Nat.le_refl _⟩ ⟨Nat.le_of_eq (Nat.zero_add _), Nat.le_of_eq (Nat.zero_add _)⟩ (x_recv hK hH (id := [0]) hd0 (ci := 6) rfl (by decide) rfl) hH rfl rfl (Nat.le_of_ble_eq_true rfl) dL_condition_17) hS (fun ce q9 H1 locs1 hp1 hS1 hce hcv hcl => ?_)
  refine x_catch hown hE htab [⟨0, 39, 40, 19⟩, ⟨0, 39, 46, 21⟩, ⟨0, 39, 52, 30⟩] ⟨0, 39, 58, 13⟩ [] rfl (fun z hz => by
        simp only [List.mem_cons, List.not_mem_nil, or_false] at hz
        rcases hz with rfl | rfl | rfl
        · exact Or.inr ⟨by decide, _, tw241, hE.ls _ (List.mem_of_getElem? (i := 3) rfl)⟩
        · exact Or.inr ⟨by decide, _, tw242, hE.ls _ (List.mem_of_getElem? (i := 7) rfl)⟩
        · exact Or.inr ⟨by decide, _, tw367, hE.ls _ (List.mem_of_getElem? (i := 9) rfl)⟩) rfl (by decide) tw163 cfIS hce hcv hcl ?_
  refine lv_astore (lv' := [(6, .ref q9), (0, .ref (ga g [0])), (1, .int y0), (2, .int y1), (3, .int 1), (4, .int y2), (5, .ref (ga g z))]) hx hb dL_condition_58 hl (by decide) rfl (fun ls hl => ?_)
  refine lv_sipush (v := (-1004)) hx hb dL_condition_60 (by decide) ?_
  refine W.widen (k := 1) (n := 6) (by omega) (by omega) ?_
  exact x_iret hx hb hr hlocks hS1 dL_condition_63 rfl hp1

set_option maxHeartbeats 1000000 in
set_option maxRecDepth 100000 in
theorem w_condition0 (l : Launch) (g : xG) (dm : List Nat → Prop) (I : xI) (F : xF) (n fr lo mc ms mc' ms' : Nat) (y0 y1 y2 : Int32) (v : Int32) (Post Post' : Heap → Prop) (hd0 : dm [0]) (z : List Nat) (hdz : dm z) (hkz : xk z = (10, 2)) (hmc : mc ≤ mc' ∧ ms ≤ ms') (hpp : ∀ H, Post H → Post' H) (hM : xM l yX6_addExit (xws yX6_addExit cX6_addExit 8 (some FieldType.int)) fr lo g [.ref (ga g [0]), .int y0, .int y1, .int y2, .int (I z 0), .int (I z 1)] (xR g dm I F n) (some (.int v)) Post mc ms) : xMl l yL_condition cL_condition 7 (some FieldType.int) [(0, 39, 40, 19), (0, 39, 46, 21), (0, 39, 52, 30), (0, 39, 58, 13)] (fr + 1) (8 + (8 + 11) + lo) g [.ref (ga g [0]), .int y0, .int y1, .int 0, .int y2, .ref (ga g z)] (xR g dm I F n) (some (.int v)) Post' mc' ms' := by
  refine xMl.of (by decide) (Nat.le_of_ble_eq_true rfl) ?_
  intro P_ e_ s m_ bl_ mt_ cd_ ls hx hb hr hown hlocks hml htab hE hK hts hH hS hl
  have hl : lv_has ls 7 [(0, .ref (ga g [0])), (1, .int y0), (2, .int y1), (3, .int 0), (4, .int y2), (5, .ref (ga g z))] := hl
  refine lv_iload_n hx hb dL_condition_0 rfl (lv_at hl 3 rfl) ?_
  refine lv_if_eq (tgt := 23) hx hb dL_condition_1 (by decide) (fun _ => ?_) (fun q_ => absurd (by decide) q_)
  refine lv_aload_n hx hb dL_condition_23 rfl (lv_at hl 0 rfl) ?_
  refine lv_iload_n hx hb dL_condition_24 rfl (lv_at hl 1 rfl) ?_
  refine lv_iload_n hx hb dL_condition_25 rfl (lv_at hl 2 rfl) ?_
  refine lv_iload hx hb dL_condition_26 (lv_at hl 4 rfl) ?_
  refine lv_aload hx hb dL_condition_28 (lv_at hl 5 rfl) ?_
  refine lv_iconst (v := 0) hx hb dL_condition_30 (by decide) ?_
  refine x_iald hx hb hK hH (id := z) hdz hkz rfl 0 rfl (by decide) (by decide) dL_condition_31 ?_
  refine lv_aload hx hb dL_condition_32 (lv_at hl 5 rfl) ?_
  refine lv_iconst (v := 1) hx hb dL_condition_34 (by decide) ?_
  refine x_iald hx hb hK hH (id := z) hdz hkz rfl 1 rfl (by decide) (by decide) dL_condition_35 ?_
  refine x_V1 hx hb hml hown hE hS hl.1 cyX6_addExit tw420 hM ⟨Nat.le_refl _, Nat.le_refl _⟩ ⟨(Nat.zero_add mc).symm ▸ hmc.1, (Nat.zero_add ms).symm ▸ hmc.2⟩ (x_recv hK hH (id := [0]) hd0 (ci := 6) rfl (by decide) rfl) hH rfl rfl (Nat.le_of_ble_eq_true rfl) dL_condition_36 (fun H locs hP hS => ?_)
  refine W.widen (k := mc') (n := ms') (by omega) (by omega) ?_
  exact x_iret hx hb hr hlocks hS dL_condition_39 rfl (hpp _ hP)

set_option maxHeartbeats 1000000 in
set_option maxRecDepth 100000 in
theorem w_condition0_eIO (l : Launch) (g : xG) (dm : List Nat → Prop) (I : xI) (F : xF) (n fr lo : Nat) (y0 y1 y2 : Int32) (hd0 : dm [0]) (z : List Nat) (hdz : dm z) (hkz : xk z = (10, 2)) (hT : xTc l yX6_addExit (xws yX6_addExit cX6_addExit 8 (some FieldType.int)) fr lo g [.ref (ga g [0]), .int y0, .int y1, .int y2, .int (I z 0), .int (I z 1)] (xR g dm I F n) eIO (xG_ g dm I F n) 1 6) : xMl l yL_condition cL_condition 7 (some FieldType.int) [(0, 39, 40, 19), (0, 39, 46, 21), (0, 39, 52, 30), (0, 39, 58, 13)] (fr + 1) (8 + (8 + 11) + lo) g [.ref (ga g [0]), .int y0, .int y1, .int 0, .int y2, .ref (ga g z)] (xR g dm I F n) (some (.int (-1001))) (xG_ g dm I F n) 1 6 := by
  refine xMl.of (by decide) (Nat.le_of_ble_eq_true rfl) ?_
  intro P_ e_ s m_ bl_ mt_ cd_ ls hx hb hr hown hlocks hml htab hE hK hts hH hS hl
  have hl : lv_has ls 7 [(0, .ref (ga g [0])), (1, .int y0), (2, .int y1), (3, .int 0), (4, .int y2), (5, .ref (ga g z))] := hl
  refine lv_iload_n hx hb dL_condition_0 rfl (lv_at hl 3 rfl) ?_
  refine lv_if_eq (tgt := 23) hx hb dL_condition_1 (by decide) (fun _ => ?_) (fun q_ => absurd (by decide) q_)
  refine lv_aload_n hx hb dL_condition_23 rfl (lv_at hl 0 rfl) ?_
  refine lv_iload_n hx hb dL_condition_24 rfl (lv_at hl 1 rfl) ?_
  refine lv_iload_n hx hb dL_condition_25 rfl (lv_at hl 2 rfl) ?_
  refine lv_iload hx hb dL_condition_26 (lv_at hl 4 rfl) ?_
  refine lv_aload hx hb dL_condition_28 (lv_at hl 5 rfl) ?_
  refine lv_iconst (v := 0) hx hb dL_condition_30 (by decide) ?_
  refine x_iald hx hb hK hH (id := z) hdz hkz rfl 0 rfl (by decide) (by decide) dL_condition_31 ?_
  refine lv_aload hx hb dL_condition_32 (lv_at hl 5 rfl) ?_
  refine lv_iconst (v := 1) hx hb dL_condition_34 (by decide) ?_
  refine x_iald hx hb hK hH (id := z) hdz hkz rfl 1 rfl (by decide) (by decide) dL_condition_35 ?_
  refine x_contT (x_VT hx hb hml hown hE hS hl.1 cyX6_addExit tw420 hT ⟨Nat.le_refl _, Nat.le_refl _⟩ ⟨Nat.le_of_eq (Nat.zero_add _), Nat.le_of_eq (Nat.zero_add _)⟩ (x_recv hK hH (id := [0]) hd0 (ci := 6) rfl (by decide) rfl) hH rfl rfl (Nat.le_of_ble_eq_true rfl) dL_condition_36) hS (fun ce q9 H1 locs1 hp1 hS1 hce hcv hcl => ?_)
  refine x_catch hown hE htab [] ⟨0, 39, 40, 19⟩ [⟨0, 39, 46, 21⟩, ⟨0, 39, 52, 30⟩, ⟨0, 39, 58, 13⟩] rfl (fun z hz => absurd hz List.not_mem_nil) rfl (by decide) tw241 cfIO hce hcv hcl ?_
  refine lv_astore (lv' := [(6, .ref q9), (0, .ref (ga g [0])), (1, .int y0), (2, .int y1), (3, .int 0), (4, .int y2), (5, .ref (ga g z))]) hx hb dL_condition_40 hl (by decide) rfl (fun ls hl => ?_)
  refine lv_sipush (v := (-1001)) hx hb dL_condition_42 (by decide) ?_
  refine W.widen (k := 1) (n := 6) (by omega) (by omega) ?_
  exact x_iret hx hb hr hlocks hS1 dL_condition_45 rfl hp1

set_option maxHeartbeats 1000000 in
set_option maxRecDepth 100000 in
theorem w_condition0_eIA (l : Launch) (g : xG) (dm : List Nat → Prop) (I : xI) (F : xF) (n fr lo : Nat) (y0 y1 y2 : Int32) (hd0 : dm [0]) (z : List Nat) (hdz : dm z) (hkz : xk z = (10, 2)) (hT : xTc l yX6_addExit (xws yX6_addExit cX6_addExit 8 (some FieldType.int)) fr lo g [.ref (ga g [0]), .int y0, .int y1, .int y2, .int (I z 0), .int (I z 1)] (xR g dm I F n) eIA (xG_ g dm I F n) 1 6) : xMl l yL_condition cL_condition 7 (some FieldType.int) [(0, 39, 40, 19), (0, 39, 46, 21), (0, 39, 52, 30), (0, 39, 58, 13)] (fr + 1) (8 + (8 + 11) + lo) g [.ref (ga g [0]), .int y0, .int y1, .int 0, .int y2, .ref (ga g z)] (xR g dm I F n) (some (.int (-1002))) (xG_ g dm I F n) 1 6 := by
  refine xMl.of (by decide) (Nat.le_of_ble_eq_true rfl) ?_
  intro P_ e_ s m_ bl_ mt_ cd_ ls hx hb hr hown hlocks hml htab hE hK hts hH hS hl
  have hl : lv_has ls 7 [(0, .ref (ga g [0])), (1, .int y0), (2, .int y1), (3, .int 0), (4, .int y2), (5, .ref (ga g z))] := hl
  refine lv_iload_n hx hb dL_condition_0 rfl (lv_at hl 3 rfl) ?_
  refine lv_if_eq (tgt := 23) hx hb dL_condition_1 (by decide) (fun _ => ?_) (fun q_ => absurd (by decide) q_)
  refine lv_aload_n hx hb dL_condition_23 rfl (lv_at hl 0 rfl) ?_
  refine lv_iload_n hx hb dL_condition_24 rfl (lv_at hl 1 rfl) ?_
  refine lv_iload_n hx hb dL_condition_25 rfl (lv_at hl 2 rfl) ?_
  refine lv_iload hx hb dL_condition_26 (lv_at hl 4 rfl) ?_
  refine lv_aload hx hb dL_condition_28 (lv_at hl 5 rfl) ?_
  refine lv_iconst (v := 0) hx hb dL_condition_30 (by decide) ?_
  refine x_iald hx hb hK hH (id := z) hdz hkz rfl 0 rfl (by decide) (by decide) dL_condition_31 ?_
  refine lv_aload hx hb dL_condition_32 (lv_at hl 5 rfl) ?_
  refine lv_iconst (v := 1) hx hb dL_condition_34 (by decide) ?_
  refine x_iald hx hb hK hH (id := z) hdz hkz rfl 1 rfl (by decide) (by decide) dL_condition_35 ?_
  refine x_contT (x_VT hx hb hml hown hE hS hl.1 cyX6_addExit tw420 hT ⟨Nat.le_refl _, Nat.le_refl _⟩ ⟨Nat.le_of_eq (Nat.zero_add _), Nat.le_of_eq (Nat.zero_add _)⟩ (x_recv hK hH (id := [0]) hd0 (ci := 6) rfl (by decide) rfl) hH rfl rfl (Nat.le_of_ble_eq_true rfl) dL_condition_36) hS (fun ce q9 H1 locs1 hp1 hS1 hce hcv hcl => ?_)
  refine x_catch hown hE htab [⟨0, 39, 40, 19⟩] ⟨0, 39, 46, 21⟩ [⟨0, 39, 52, 30⟩, ⟨0, 39, 58, 13⟩] rfl (fun z hz => by
        simp only [List.mem_cons, List.not_mem_nil, or_false] at hz
        rcases hz with rfl
        exact Or.inr ⟨by decide, _, tw241, hE.ls _ (List.mem_of_getElem? (i := 4) rfl)⟩) rfl (by decide) tw242 cfIA hce hcv hcl ?_
  refine lv_astore (lv' := [(6, .ref q9), (0, .ref (ga g [0])), (1, .int y0), (2, .int y1), (3, .int 0), (4, .int y2), (5, .ref (ga g z))]) hx hb dL_condition_46 hl (by decide) rfl (fun ls hl => ?_)
  refine lv_sipush (v := (-1002)) hx hb dL_condition_48 (by decide) ?_
  refine W.widen (k := 1) (n := 6) (by omega) (by omega) ?_
  exact x_iret hx hb hr hlocks hS1 dL_condition_51 rfl hp1

set_option maxHeartbeats 1000000 in
set_option maxRecDepth 100000 in
theorem w_condition0_eUO (l : Launch) (g : xG) (dm : List Nat → Prop) (I : xI) (F : xF) (n fr lo : Nat) (y0 y1 y2 : Int32) (hd0 : dm [0]) (z : List Nat) (hdz : dm z) (hkz : xk z = (10, 2)) (hT : xTc l yX6_addExit (xws yX6_addExit cX6_addExit 8 (some FieldType.int)) fr lo g [.ref (ga g [0]), .int y0, .int y1, .int y2, .int (I z 0), .int (I z 1)] (xR g dm I F n) eUO (xG_ g dm I F n) 1 6) : xMl l yL_condition cL_condition 7 (some FieldType.int) [(0, 39, 40, 19), (0, 39, 46, 21), (0, 39, 52, 30), (0, 39, 58, 13)] (fr + 1) (8 + (8 + 11) + lo) g [.ref (ga g [0]), .int y0, .int y1, .int 0, .int y2, .ref (ga g z)] (xR g dm I F n) (some (.int (-1003))) (xG_ g dm I F n) 1 6 := by
  refine xMl.of (by decide) (Nat.le_of_ble_eq_true rfl) ?_
  intro P_ e_ s m_ bl_ mt_ cd_ ls hx hb hr hown hlocks hml htab hE hK hts hH hS hl
  have hl : lv_has ls 7 [(0, .ref (ga g [0])), (1, .int y0), (2, .int y1), (3, .int 0), (4, .int y2), (5, .ref (ga g z))] := hl
  refine lv_iload_n hx hb dL_condition_0 rfl (lv_at hl 3 rfl) ?_
  refine lv_if_eq (tgt := 23) hx hb dL_condition_1 (by decide) (fun _ => ?_) (fun q_ => absurd (by decide) q_)
  refine lv_aload_n hx hb dL_condition_23 rfl (lv_at hl 0 rfl) ?_
  refine lv_iload_n hx hb dL_condition_24 rfl (lv_at hl 1 rfl) ?_
  refine lv_iload_n hx hb dL_condition_25 rfl (lv_at hl 2 rfl) ?_
  refine lv_iload hx hb dL_condition_26 (lv_at hl 4 rfl) ?_
  refine lv_aload hx hb dL_condition_28 (lv_at hl 5 rfl) ?_
  refine lv_iconst (v := 0) hx hb dL_condition_30 (by decide) ?_
  refine x_iald hx hb hK hH (id := z) hdz hkz rfl 0 rfl (by decide) (by decide) dL_condition_31 ?_
  refine lv_aload hx hb dL_condition_32 (lv_at hl 5 rfl) ?_
  refine lv_iconst (v := 1) hx hb dL_condition_34 (by decide) ?_
  refine x_iald hx hb hK hH (id := z) hdz hkz rfl 1 rfl (by decide) (by decide) dL_condition_35 ?_
  refine x_contT (x_VT hx hb hml hown hE hS hl.1 cyX6_addExit tw420 hT ⟨Nat.le_refl _, Nat.le_refl _⟩ ⟨Nat.le_of_eq (Nat.zero_add _), Nat.le_of_eq (Nat.zero_add _)⟩ (x_recv hK hH (id := [0]) hd0 (ci := 6) rfl (by decide) rfl) hH rfl rfl (Nat.le_of_ble_eq_true rfl) dL_condition_36) hS (fun ce q9 H1 locs1 hp1 hS1 hce hcv hcl => ?_)
  refine x_catch hown hE htab [⟨0, 39, 40, 19⟩, ⟨0, 39, 46, 21⟩] ⟨0, 39, 52, 30⟩ [⟨0, 39, 58, 13⟩] rfl (fun z hz => by
        simp only [List.mem_cons, List.not_mem_nil, or_false] at hz
        rcases hz with rfl | rfl
        · exact Or.inr ⟨by decide, _, tw241, hE.ls _ (List.mem_of_getElem? (i := 5) rfl)⟩
        · exact Or.inr ⟨by decide, _, tw242, hE.ls _ (List.mem_of_getElem? (i := 8) rfl)⟩) rfl (by decide) tw367 cfUO hce hcv hcl ?_
  refine lv_astore (lv' := [(6, .ref q9), (0, .ref (ga g [0])), (1, .int y0), (2, .int y1), (3, .int 0), (4, .int y2), (5, .ref (ga g z))]) hx hb dL_condition_52 hl (by decide) rfl (fun ls hl => ?_)
  refine lv_sipush (v := (-1003)) hx hb dL_condition_54 (by decide) ?_
  refine W.widen (k := 1) (n := 6) (by omega) (by omega) ?_
  exact x_iret hx hb hr hlocks hS1 dL_condition_57 rfl hp1

set_option maxHeartbeats 1000000 in
set_option maxRecDepth 100000 in
theorem w_condition0_eIS (l : Launch) (g : xG) (dm : List Nat → Prop) (I : xI) (F : xF) (n fr lo : Nat) (y0 y1 y2 : Int32) (hd0 : dm [0]) (z : List Nat) (hdz : dm z) (hkz : xk z = (10, 2)) (hT : xTc l yX6_addExit (xws yX6_addExit cX6_addExit 8 (some FieldType.int)) fr lo g [.ref (ga g [0]), .int y0, .int y1, .int y2, .int (I z 0), .int (I z 1)] (xR g dm I F n) eIS (xG_ g dm I F n) 1 6) : xMl l yL_condition cL_condition 7 (some FieldType.int) [(0, 39, 40, 19), (0, 39, 46, 21), (0, 39, 52, 30), (0, 39, 58, 13)] (fr + 1) (8 + (8 + 11) + lo) g [.ref (ga g [0]), .int y0, .int y1, .int 0, .int y2, .ref (ga g z)] (xR g dm I F n) (some (.int (-1004))) (xG_ g dm I F n) 1 6 := by
  refine xMl.of (by decide) (Nat.le_of_ble_eq_true rfl) ?_
  intro P_ e_ s m_ bl_ mt_ cd_ ls hx hb hr hown hlocks hml htab hE hK hts hH hS hl
  have hl : lv_has ls 7 [(0, .ref (ga g [0])), (1, .int y0), (2, .int y1), (3, .int 0), (4, .int y2), (5, .ref (ga g z))] := hl
  refine lv_iload_n hx hb dL_condition_0 rfl (lv_at hl 3 rfl) ?_
  refine lv_if_eq (tgt := 23) hx hb dL_condition_1 (by decide) (fun _ => ?_) (fun q_ => absurd (by decide) q_)
  refine lv_aload_n hx hb dL_condition_23 rfl (lv_at hl 0 rfl) ?_
  refine lv_iload_n hx hb dL_condition_24 rfl (lv_at hl 1 rfl) ?_
  refine lv_iload_n hx hb dL_condition_25 rfl (lv_at hl 2 rfl) ?_
  refine lv_iload hx hb dL_condition_26 (lv_at hl 4 rfl) ?_
  refine lv_aload hx hb dL_condition_28 (lv_at hl 5 rfl) ?_
  refine lv_iconst (v := 0) hx hb dL_condition_30 (by decide) ?_
  refine x_iald hx hb hK hH (id := z) hdz hkz rfl 0 rfl (by decide) (by decide) dL_condition_31 ?_
  refine lv_aload hx hb dL_condition_32 (lv_at hl 5 rfl) ?_
  refine lv_iconst (v := 1) hx hb dL_condition_34 (by decide) ?_
  refine x_iald hx hb hK hH (id := z) hdz hkz rfl 1 rfl (by decide) (by decide) dL_condition_35 ?_
  refine x_contT (x_VT hx hb hml hown hE hS hl.1 cyX6_addExit tw420 hT ⟨Nat.le_refl _, Nat.le_refl _⟩ ⟨Nat.le_of_eq (Nat.zero_add _), Nat.le_of_eq (Nat.zero_add _)⟩ (x_recv hK hH (id := [0]) hd0 (ci := 6) rfl (by decide) rfl) hH rfl rfl (Nat.le_of_ble_eq_true rfl) dL_condition_36) hS (fun ce q9 H1 locs1 hp1 hS1 hce hcv hcl => ?_)
  refine x_catch hown hE htab [⟨0, 39, 40, 19⟩, ⟨0, 39, 46, 21⟩, ⟨0, 39, 52, 30⟩] ⟨0, 39, 58, 13⟩ [] rfl (fun z hz => by
        simp only [List.mem_cons, List.not_mem_nil, or_false] at hz
        rcases hz with rfl | rfl | rfl
        · exact Or.inr ⟨by decide, _, tw241, hE.ls _ (List.mem_of_getElem? (i := 3) rfl)⟩
        · exact Or.inr ⟨by decide, _, tw242, hE.ls _ (List.mem_of_getElem? (i := 7) rfl)⟩
        · exact Or.inr ⟨by decide, _, tw367, hE.ls _ (List.mem_of_getElem? (i := 9) rfl)⟩) rfl (by decide) tw163 cfIS hce hcv hcl ?_
  refine lv_astore (lv' := [(6, .ref q9), (0, .ref (ga g [0])), (1, .int y0), (2, .int y1), (3, .int 0), (4, .int y2), (5, .ref (ga g z))]) hx hb dL_condition_58 hl (by decide) rfl (fun ls hl => ?_)
  refine lv_sipush (v := (-1004)) hx hb dL_condition_60 (by decide) ?_
  refine W.widen (k := 1) (n := 6) (by omega) (by omega) ?_
  exact x_iret hx hb hr hlocks hS1 dL_condition_63 rfl hp1

set_option maxHeartbeats 1000000 in
set_option maxRecDepth 100000 in
theorem w_flagt (l : Launch) (g : xG) (dm : List Nat → Prop) (I : xI) (F : xF) (n fr lo mc ms mc' ms' : Nat) (y0 y1 y2 : Int32) (v : Int32) (Post Post' : Heap → Prop) (hv : sBo v) (hd0 : dm [0]) (hmc : mc ≤ mc' ∧ ms ≤ ms') (hpp : ∀ H, Post H → Post' H) (hM : xM l yX6_setRequired (xws yX6_setRequired cX6_setRequired 7 (some FieldType.boolean)) fr lo g [.ref (ga g [0]), .int y0, .int y1, .int y2] (xR g dm I F n) (some (.int v)) Post mc ms) : xMl l yL_flag cL_flag 6 (some FieldType.int) [(0, 36, 37, 19), (0, 36, 43, 30), (0, 36, 49, 13)] (fr + 1) (8 + (7 + 11) + lo) g [.ref (ga g [0]), .int y0, .int y1, .int 116, .int y2] (xR g dm I F n) (some (.int v)) Post' mc' ms' := by
  refine xMl.of (by decide) (Nat.le_of_ble_eq_true rfl) ?_
  intro P_ e_ s m_ bl_ mt_ cd_ ls hx hb hr hown hlocks hml htab hE hK hts hH hS hl
  have hl : lv_has ls 6 [(0, .ref (ga g [0])), (1, .int y0), (2, .int y1), (3, .int 116), (4, .int y2)] := hl
  refine lv_iload_n hx hb dL_flag_0 rfl (lv_at hl 3 rfl) ?_
  refine lv_bipush (v := 116) hx hb dL_flag_1 (by decide) ?_
  refine lv_icmp_ne (tgt := 20) hx hb dL_flag_3 (by decide) (fun q_ => absurd (by decide) q_) (fun _ => ?_)
  refine lv_aload_n hx hb dL_flag_6 rfl (lv_at hl 0 rfl) ?_
  refine lv_iload_n hx hb dL_flag_7 rfl (lv_at hl 1 rfl) ?_
  refine lv_iload_n hx hb dL_flag_8 rfl (lv_at hl 2 rfl) ?_
  refine lv_iload hx hb dL_flag_9 (lv_at hl 4 rfl) ?_
  refine x_V1 hx hb hml hown hE hS hl.1 cyX6_setRequired tw443 hM ⟨Nat.le_refl _, Nat.le_refl _⟩ ⟨(Nat.zero_add mc).symm ▸ hmc.1, (Nat.zero_add ms).symm ▸ hmc.2⟩ (x_recv hK hH (id := [0]) hd0 (ci := 6) rfl (by decide) rfl) hH rfl rfl (Nat.le_of_ble_eq_true rfl) dL_flag_11 (fun H locs hP hS => ?_)
  rcases hv with hv | hv
  · refine lv_if_eq (tgt := 35) hx hb dL_flag_14 (by decide) (fun _ => ?_) (fun q_ => absurd hv q_)
    refine lv_iconst (v := 0) hx hb dL_flag_35 (by decide) ?_
    refine W.widen (k := mc') (n := ms') (by omega) (by omega) ?_
    exact x_iret hx hb hr hlocks hS dL_flag_36 hv.symm (hpp _ hP)
  · refine lv_if_eq (tgt := 35) hx hb dL_flag_14 (by decide) (fun q_ => absurd q_ (by rw [hv]; decide)) (fun _ => ?_)
    refine lv_goto (tgt := 31) hx hb dL_flag_17 (by decide) ?_
    refine lv_iconst (v := 1) hx hb dL_flag_31 (by decide) ?_
    refine lv_goto (tgt := 36) hx hb dL_flag_32 (by decide) ?_
    refine W.widen (k := mc') (n := ms') (by omega) (by omega) ?_
    exact x_iret hx hb hr hlocks hS dL_flag_36 hv.symm (hpp _ hP)

set_option maxHeartbeats 1000000 in
set_option maxRecDepth 100000 in
theorem w_flagt_eIO (l : Launch) (g : xG) (dm : List Nat → Prop) (I : xI) (F : xF) (n fr lo : Nat) (y0 y1 y2 : Int32) (hd0 : dm [0]) (hT : xTc l yX6_setRequired (xws yX6_setRequired cX6_setRequired 7 (some FieldType.boolean)) fr lo g [.ref (ga g [0]), .int y0, .int y1, .int y2] (xR g dm I F n) eIO (xG_ g dm I F n) 1 6) : xMl l yL_flag cL_flag 6 (some FieldType.int) [(0, 36, 37, 19), (0, 36, 43, 30), (0, 36, 49, 13)] (fr + 1) (8 + (7 + 11) + lo) g [.ref (ga g [0]), .int y0, .int y1, .int 116, .int y2] (xR g dm I F n) (some (.int (-1001))) (xG_ g dm I F n) 1 6 := by
  refine xMl.of (by decide) (Nat.le_of_ble_eq_true rfl) ?_
  intro P_ e_ s m_ bl_ mt_ cd_ ls hx hb hr hown hlocks hml htab hE hK hts hH hS hl
  have hl : lv_has ls 6 [(0, .ref (ga g [0])), (1, .int y0), (2, .int y1), (3, .int 116), (4, .int y2)] := hl
  refine lv_iload_n hx hb dL_flag_0 rfl (lv_at hl 3 rfl) ?_
  refine lv_bipush (v := 116) hx hb dL_flag_1 (by decide) ?_
  refine lv_icmp_ne (tgt := 20) hx hb dL_flag_3 (by decide) (fun q_ => absurd (by decide) q_) (fun _ => ?_)
  refine lv_aload_n hx hb dL_flag_6 rfl (lv_at hl 0 rfl) ?_
  refine lv_iload_n hx hb dL_flag_7 rfl (lv_at hl 1 rfl) ?_
  refine lv_iload_n hx hb dL_flag_8 rfl (lv_at hl 2 rfl) ?_
  refine lv_iload hx hb dL_flag_9 (lv_at hl 4 rfl) ?_
  refine x_contT (x_VT hx hb hml hown hE hS hl.1 cyX6_setRequired tw443 hT ⟨Nat.le_refl _, Nat.le_refl _⟩ ⟨Nat.le_of_eq (Nat.zero_add _), Nat.le_of_eq (Nat.zero_add _)⟩ (x_recv hK hH (id := [0]) hd0 (ci := 6) rfl (by decide) rfl) hH rfl rfl (Nat.le_of_ble_eq_true rfl) dL_flag_11) hS (fun ce q9 H1 locs1 hp1 hS1 hce hcv hcl => ?_)
  refine x_catch hown hE htab [] ⟨0, 36, 37, 19⟩ [⟨0, 36, 43, 30⟩, ⟨0, 36, 49, 13⟩] rfl (fun z hz => absurd hz List.not_mem_nil) rfl (by decide) tw241 cfIO hce hcv hcl ?_
  refine lv_astore (lv' := [(5, .ref q9), (0, .ref (ga g [0])), (1, .int y0), (2, .int y1), (3, .int 116), (4, .int y2)]) hx hb dL_flag_37 hl (by decide) rfl (fun ls hl => ?_)
  refine lv_sipush (v := (-1001)) hx hb dL_flag_39 (by decide) ?_
  refine W.widen (k := 1) (n := 6) (by omega) (by omega) ?_
  exact x_iret hx hb hr hlocks hS1 dL_flag_42 rfl hp1

set_option maxHeartbeats 1000000 in
set_option maxRecDepth 100000 in
theorem w_flagt_eUO (l : Launch) (g : xG) (dm : List Nat → Prop) (I : xI) (F : xF) (n fr lo : Nat) (y0 y1 y2 : Int32) (hd0 : dm [0]) (hT : xTc l yX6_setRequired (xws yX6_setRequired cX6_setRequired 7 (some FieldType.boolean)) fr lo g [.ref (ga g [0]), .int y0, .int y1, .int y2] (xR g dm I F n) eUO (xG_ g dm I F n) 1 6) : xMl l yL_flag cL_flag 6 (some FieldType.int) [(0, 36, 37, 19), (0, 36, 43, 30), (0, 36, 49, 13)] (fr + 1) (8 + (7 + 11) + lo) g [.ref (ga g [0]), .int y0, .int y1, .int 116, .int y2] (xR g dm I F n) (some (.int (-1002))) (xG_ g dm I F n) 1 6 := by
  refine xMl.of (by decide) (Nat.le_of_ble_eq_true rfl) ?_
  intro P_ e_ s m_ bl_ mt_ cd_ ls hx hb hr hown hlocks hml htab hE hK hts hH hS hl
  have hl : lv_has ls 6 [(0, .ref (ga g [0])), (1, .int y0), (2, .int y1), (3, .int 116), (4, .int y2)] := hl
  refine lv_iload_n hx hb dL_flag_0 rfl (lv_at hl 3 rfl) ?_
  refine lv_bipush (v := 116) hx hb dL_flag_1 (by decide) ?_
  refine lv_icmp_ne (tgt := 20) hx hb dL_flag_3 (by decide) (fun q_ => absurd (by decide) q_) (fun _ => ?_)
  refine lv_aload_n hx hb dL_flag_6 rfl (lv_at hl 0 rfl) ?_
  refine lv_iload_n hx hb dL_flag_7 rfl (lv_at hl 1 rfl) ?_
  refine lv_iload_n hx hb dL_flag_8 rfl (lv_at hl 2 rfl) ?_
  refine lv_iload hx hb dL_flag_9 (lv_at hl 4 rfl) ?_
  refine x_contT (x_VT hx hb hml hown hE hS hl.1 cyX6_setRequired tw443 hT ⟨Nat.le_refl _, Nat.le_refl _⟩ ⟨Nat.le_of_eq (Nat.zero_add _), Nat.le_of_eq (Nat.zero_add _)⟩ (x_recv hK hH (id := [0]) hd0 (ci := 6) rfl (by decide) rfl) hH rfl rfl (Nat.le_of_ble_eq_true rfl) dL_flag_11) hS (fun ce q9 H1 locs1 hp1 hS1 hce hcv hcl => ?_)
  refine x_catch hown hE htab [⟨0, 36, 37, 19⟩] ⟨0, 36, 43, 30⟩ [⟨0, 36, 49, 13⟩] rfl (fun z hz => by
        simp only [List.mem_cons, List.not_mem_nil, or_false] at hz
        rcases hz with rfl
        exact Or.inr ⟨by decide, _, tw241, hE.ls _ (List.mem_of_getElem? (i := 5) rfl)⟩) rfl (by decide) tw367 cfUO hce hcv hcl ?_
  refine lv_astore (lv' := [(5, .ref q9), (0, .ref (ga g [0])), (1, .int y0), (2, .int y1), (3, .int 116), (4, .int y2)]) hx hb dL_flag_43 hl (by decide) rfl (fun ls hl => ?_)
  refine lv_sipush (v := (-1002)) hx hb dL_flag_45 (by decide) ?_
  refine W.widen (k := 1) (n := 6) (by omega) (by omega) ?_
  exact x_iret hx hb hr hlocks hS1 dL_flag_48 rfl hp1

set_option maxHeartbeats 1000000 in
set_option maxRecDepth 100000 in
theorem w_flagt_eIS (l : Launch) (g : xG) (dm : List Nat → Prop) (I : xI) (F : xF) (n fr lo : Nat) (y0 y1 y2 : Int32) (hd0 : dm [0]) (hT : xTc l yX6_setRequired (xws yX6_setRequired cX6_setRequired 7 (some FieldType.boolean)) fr lo g [.ref (ga g [0]), .int y0, .int y1, .int y2] (xR g dm I F n) eIS (xG_ g dm I F n) 1 6) : xMl l yL_flag cL_flag 6 (some FieldType.int) [(0, 36, 37, 19), (0, 36, 43, 30), (0, 36, 49, 13)] (fr + 1) (8 + (7 + 11) + lo) g [.ref (ga g [0]), .int y0, .int y1, .int 116, .int y2] (xR g dm I F n) (some (.int (-1003))) (xG_ g dm I F n) 1 6 := by
  refine xMl.of (by decide) (Nat.le_of_ble_eq_true rfl) ?_
  intro P_ e_ s m_ bl_ mt_ cd_ ls hx hb hr hown hlocks hml htab hE hK hts hH hS hl
  have hl : lv_has ls 6 [(0, .ref (ga g [0])), (1, .int y0), (2, .int y1), (3, .int 116), (4, .int y2)] := hl
  refine lv_iload_n hx hb dL_flag_0 rfl (lv_at hl 3 rfl) ?_
  refine lv_bipush (v := 116) hx hb dL_flag_1 (by decide) ?_
  refine lv_icmp_ne (tgt := 20) hx hb dL_flag_3 (by decide) (fun q_ => absurd (by decide) q_) (fun _ => ?_)
  refine lv_aload_n hx hb dL_flag_6 rfl (lv_at hl 0 rfl) ?_
  refine lv_iload_n hx hb dL_flag_7 rfl (lv_at hl 1 rfl) ?_
  refine lv_iload_n hx hb dL_flag_8 rfl (lv_at hl 2 rfl) ?_
  refine lv_iload hx hb dL_flag_9 (lv_at hl 4 rfl) ?_
  refine x_contT (x_VT hx hb hml hown hE hS hl.1 cyX6_setRequired tw443 hT ⟨Nat.le_refl _, Nat.le_refl _⟩ ⟨Nat.le_of_eq (Nat.zero_add _), Nat.le_of_eq (Nat.zero_add _)⟩ (x_recv hK hH (id := [0]) hd0 (ci := 6) rfl (by decide) rfl) hH rfl rfl (Nat.le_of_ble_eq_true rfl) dL_flag_11) hS (fun ce q9 H1 locs1 hp1 hS1 hce hcv hcl => ?_)
  refine x_catch hown hE htab [⟨0, 36, 37, 19⟩, ⟨0, 36, 43, 30⟩] ⟨0, 36, 49, 13⟩ [] rfl (fun z hz => by
        simp only [List.mem_cons, List.not_mem_nil, or_false] at hz
        rcases hz with rfl | rfl
        · exact Or.inr ⟨by decide, _, tw241, hE.ls _ (List.mem_of_getElem? (i := 3) rfl)⟩
        · exact Or.inr ⟨by decide, _, tw367, hE.ls _ (List.mem_of_getElem? (i := 9) rfl)⟩) rfl (by decide) tw163 cfIS hce hcv hcl ?_
  refine lv_astore (lv' := [(5, .ref q9), (0, .ref (ga g [0])), (1, .int y0), (2, .int y1), (3, .int 116), (4, .int y2)]) hx hb dL_flag_49 hl (by decide) rfl (fun ls hl => ?_)
  refine lv_sipush (v := (-1003)) hx hb dL_flag_51 (by decide) ?_
  refine W.widen (k := 1) (n := 6) (by omega) (by omega) ?_
  exact x_iret hx hb hr hlocks hS1 dL_flag_54 rfl hp1

set_option maxHeartbeats 1000000 in
set_option maxRecDepth 100000 in
theorem w_flagm (l : Launch) (g : xG) (dm : List Nat → Prop) (I : xI) (F : xF) (n fr lo mc ms mc' ms' : Nat) (y0 y1 y2 : Int32) (v : Int32) (Post Post' : Heap → Prop) (hv : sBo v) (hd0 : dm [0]) (hmc : mc ≤ mc' ∧ ms ≤ ms') (hpp : ∀ H, Post H → Post' H) (hM : xM l yX6_setAgain (xws yX6_setAgain cX6_setAgain 7 (some FieldType.boolean)) fr lo g [.ref (ga g [0]), .int y0, .int y1, .int y2] (xR g dm I F n) (some (.int v)) Post mc ms) : xMl l yL_flag cL_flag 6 (some FieldType.int) [(0, 36, 37, 19), (0, 36, 43, 30), (0, 36, 49, 13)] (fr + 1) (8 + (7 + 11) + lo) g [.ref (ga g [0]), .int y0, .int y1, .int 109, .int y2] (xR g dm I F n) (some (.int v)) Post' mc' ms' := by
  refine xMl.of (by decide) (Nat.le_of_ble_eq_true rfl) ?_
  intro P_ e_ s m_ bl_ mt_ cd_ ls hx hb hr hown hlocks hml htab hE hK hts hH hS hl
  have hl : lv_has ls 6 [(0, .ref (ga g [0])), (1, .int y0), (2, .int y1), (3, .int 109), (4, .int y2)] := hl
  refine lv_iload_n hx hb dL_flag_0 rfl (lv_at hl 3 rfl) ?_
  refine lv_bipush (v := 116) hx hb dL_flag_1 (by decide) ?_
  refine lv_icmp_ne (tgt := 20) hx hb dL_flag_3 (by decide) (fun _ => ?_) (fun q_ => absurd q_ (by decide))
  refine lv_aload_n hx hb dL_flag_20 rfl (lv_at hl 0 rfl) ?_
  refine lv_iload_n hx hb dL_flag_21 rfl (lv_at hl 1 rfl) ?_
  refine lv_iload_n hx hb dL_flag_22 rfl (lv_at hl 2 rfl) ?_
  refine lv_iload hx hb dL_flag_23 (lv_at hl 4 rfl) ?_
  refine x_V1 hx hb hml hown hE hS hl.1 cyX6_setAgain tw451 hM ⟨Nat.le_refl _, Nat.le_refl _⟩ ⟨(Nat.zero_add mc).symm ▸ hmc.1, (Nat.zero_add ms).symm ▸ hmc.2⟩ (x_recv hK hH (id := [0]) hd0 (ci := 6) rfl (by decide) rfl) hH rfl rfl (Nat.le_of_ble_eq_true rfl) dL_flag_25 (fun H locs hP hS => ?_)
  rcases hv with hv | hv
  · refine lv_if_eq (tgt := 35) hx hb dL_flag_28 (by decide) (fun _ => ?_) (fun q_ => absurd hv q_)
    refine lv_iconst (v := 0) hx hb dL_flag_35 (by decide) ?_
    refine W.widen (k := mc') (n := ms') (by omega) (by omega) ?_
    exact x_iret hx hb hr hlocks hS dL_flag_36 hv.symm (hpp _ hP)
  · refine lv_if_eq (tgt := 35) hx hb dL_flag_28 (by decide) (fun q_ => absurd q_ (by rw [hv]; decide)) (fun _ => ?_)
    refine lv_iconst (v := 1) hx hb dL_flag_31 (by decide) ?_
    refine lv_goto (tgt := 36) hx hb dL_flag_32 (by decide) ?_
    refine W.widen (k := mc') (n := ms') (by omega) (by omega) ?_
    exact x_iret hx hb hr hlocks hS dL_flag_36 hv.symm (hpp _ hP)

set_option maxHeartbeats 1000000 in
set_option maxRecDepth 100000 in
theorem w_flagm_eIO (l : Launch) (g : xG) (dm : List Nat → Prop) (I : xI) (F : xF) (n fr lo : Nat) (y0 y1 y2 : Int32) (hd0 : dm [0]) (hT : xTc l yX6_setAgain (xws yX6_setAgain cX6_setAgain 7 (some FieldType.boolean)) fr lo g [.ref (ga g [0]), .int y0, .int y1, .int y2] (xR g dm I F n) eIO (xG_ g dm I F n) 1 6) : xMl l yL_flag cL_flag 6 (some FieldType.int) [(0, 36, 37, 19), (0, 36, 43, 30), (0, 36, 49, 13)] (fr + 1) (8 + (7 + 11) + lo) g [.ref (ga g [0]), .int y0, .int y1, .int 109, .int y2] (xR g dm I F n) (some (.int (-1001))) (xG_ g dm I F n) 1 6 := by
  refine xMl.of (by decide) (Nat.le_of_ble_eq_true rfl) ?_
  intro P_ e_ s m_ bl_ mt_ cd_ ls hx hb hr hown hlocks hml htab hE hK hts hH hS hl
  have hl : lv_has ls 6 [(0, .ref (ga g [0])), (1, .int y0), (2, .int y1), (3, .int 109), (4, .int y2)] := hl
  refine lv_iload_n hx hb dL_flag_0 rfl (lv_at hl 3 rfl) ?_
  refine lv_bipush (v := 116) hx hb dL_flag_1 (by decide) ?_
  refine lv_icmp_ne (tgt := 20) hx hb dL_flag_3 (by decide) (fun _ => ?_) (fun q_ => absurd q_ (by decide))
  refine lv_aload_n hx hb dL_flag_20 rfl (lv_at hl 0 rfl) ?_
  refine lv_iload_n hx hb dL_flag_21 rfl (lv_at hl 1 rfl) ?_
  refine lv_iload_n hx hb dL_flag_22 rfl (lv_at hl 2 rfl) ?_
  refine lv_iload hx hb dL_flag_23 (lv_at hl 4 rfl) ?_
  refine x_contT (x_VT hx hb hml hown hE hS hl.1 cyX6_setAgain tw451 hT ⟨Nat.le_refl _, Nat.le_refl _⟩ ⟨Nat.le_of_eq (Nat.zero_add _), Nat.le_of_eq (Nat.zero_add _)⟩ (x_recv hK hH (id := [0]) hd0 (ci := 6) rfl (by decide) rfl) hH rfl rfl (Nat.le_of_ble_eq_true rfl) dL_flag_25) hS (fun ce q9 H1 locs1 hp1 hS1 hce hcv hcl => ?_)
  refine x_catch hown hE htab [] ⟨0, 36, 37, 19⟩ [⟨0, 36, 43, 30⟩, ⟨0, 36, 49, 13⟩] rfl (fun z hz => absurd hz List.not_mem_nil) rfl (by decide) tw241 cfIO hce hcv hcl ?_
  refine lv_astore (lv' := [(5, .ref q9), (0, .ref (ga g [0])), (1, .int y0), (2, .int y1), (3, .int 109), (4, .int y2)]) hx hb dL_flag_37 hl (by decide) rfl (fun ls hl => ?_)
  refine lv_sipush (v := (-1001)) hx hb dL_flag_39 (by decide) ?_
  refine W.widen (k := 1) (n := 6) (by omega) (by omega) ?_
  exact x_iret hx hb hr hlocks hS1 dL_flag_42 rfl hp1

set_option maxHeartbeats 1000000 in
set_option maxRecDepth 100000 in
theorem w_flagm_eUO (l : Launch) (g : xG) (dm : List Nat → Prop) (I : xI) (F : xF) (n fr lo : Nat) (y0 y1 y2 : Int32) (hd0 : dm [0]) (hT : xTc l yX6_setAgain (xws yX6_setAgain cX6_setAgain 7 (some FieldType.boolean)) fr lo g [.ref (ga g [0]), .int y0, .int y1, .int y2] (xR g dm I F n) eUO (xG_ g dm I F n) 1 6) : xMl l yL_flag cL_flag 6 (some FieldType.int) [(0, 36, 37, 19), (0, 36, 43, 30), (0, 36, 49, 13)] (fr + 1) (8 + (7 + 11) + lo) g [.ref (ga g [0]), .int y0, .int y1, .int 109, .int y2] (xR g dm I F n) (some (.int (-1002))) (xG_ g dm I F n) 1 6 := by
  refine xMl.of (by decide) (Nat.le_of_ble_eq_true rfl) ?_
  intro P_ e_ s m_ bl_ mt_ cd_ ls hx hb hr hown hlocks hml htab hE hK hts hH hS hl
  have hl : lv_has ls 6 [(0, .ref (ga g [0])), (1, .int y0), (2, .int y1), (3, .int 109), (4, .int y2)] := hl
  refine lv_iload_n hx hb dL_flag_0 rfl (lv_at hl 3 rfl) ?_
  refine lv_bipush (v := 116) hx hb dL_flag_1 (by decide) ?_
  refine lv_icmp_ne (tgt := 20) hx hb dL_flag_3 (by decide) (fun _ => ?_) (fun q_ => absurd q_ (by decide))
  refine lv_aload_n hx hb dL_flag_20 rfl (lv_at hl 0 rfl) ?_
  refine lv_iload_n hx hb dL_flag_21 rfl (lv_at hl 1 rfl) ?_
  refine lv_iload_n hx hb dL_flag_22 rfl (lv_at hl 2 rfl) ?_
  refine lv_iload hx hb dL_flag_23 (lv_at hl 4 rfl) ?_
  refine x_contT (x_VT hx hb hml hown hE hS hl.1 cyX6_setAgain tw451 hT ⟨Nat.le_refl _, Nat.le_refl _⟩ ⟨Nat.le_of_eq (Nat.zero_add _), Nat.le_of_eq (Nat.zero_add _)⟩ (x_recv hK hH (id := [0]) hd0 (ci := 6) rfl (by decide) rfl) hH rfl rfl (Nat.le_of_ble_eq_true rfl) dL_flag_25) hS (fun ce q9 H1 locs1 hp1 hS1 hce hcv hcl => ?_)
  refine x_catch hown hE htab [⟨0, 36, 37, 19⟩] ⟨0, 36, 43, 30⟩ [⟨0, 36, 49, 13⟩] rfl (fun z hz => by
        simp only [List.mem_cons, List.not_mem_nil, or_false] at hz
        rcases hz with rfl
        exact Or.inr ⟨by decide, _, tw241, hE.ls _ (List.mem_of_getElem? (i := 5) rfl)⟩) rfl (by decide) tw367 cfUO hce hcv hcl ?_
  refine lv_astore (lv' := [(5, .ref q9), (0, .ref (ga g [0])), (1, .int y0), (2, .int y1), (3, .int 109), (4, .int y2)]) hx hb dL_flag_43 hl (by decide) rfl (fun ls hl => ?_)
  refine lv_sipush (v := (-1002)) hx hb dL_flag_45 (by decide) ?_
  refine W.widen (k := 1) (n := 6) (by omega) (by omega) ?_
  exact x_iret hx hb hr hlocks hS1 dL_flag_48 rfl hp1

set_option maxHeartbeats 1000000 in
set_option maxRecDepth 100000 in
theorem w_flagm_eIS (l : Launch) (g : xG) (dm : List Nat → Prop) (I : xI) (F : xF) (n fr lo : Nat) (y0 y1 y2 : Int32) (hd0 : dm [0]) (hT : xTc l yX6_setAgain (xws yX6_setAgain cX6_setAgain 7 (some FieldType.boolean)) fr lo g [.ref (ga g [0]), .int y0, .int y1, .int y2] (xR g dm I F n) eIS (xG_ g dm I F n) 1 6) : xMl l yL_flag cL_flag 6 (some FieldType.int) [(0, 36, 37, 19), (0, 36, 43, 30), (0, 36, 49, 13)] (fr + 1) (8 + (7 + 11) + lo) g [.ref (ga g [0]), .int y0, .int y1, .int 109, .int y2] (xR g dm I F n) (some (.int (-1003))) (xG_ g dm I F n) 1 6 := by
  refine xMl.of (by decide) (Nat.le_of_ble_eq_true rfl) ?_
  intro P_ e_ s m_ bl_ mt_ cd_ ls hx hb hr hown hlocks hml htab hE hK hts hH hS hl
  have hl : lv_has ls 6 [(0, .ref (ga g [0])), (1, .int y0), (2, .int y1), (3, .int 109), (4, .int y2)] := hl
  refine lv_iload_n hx hb dL_flag_0 rfl (lv_at hl 3 rfl) ?_
  refine lv_bipush (v := 116) hx hb dL_flag_1 (by decide) ?_
  refine lv_icmp_ne (tgt := 20) hx hb dL_flag_3 (by decide) (fun _ => ?_) (fun q_ => absurd q_ (by decide))
  refine lv_aload_n hx hb dL_flag_20 rfl (lv_at hl 0 rfl) ?_
  refine lv_iload_n hx hb dL_flag_21 rfl (lv_at hl 1 rfl) ?_
  refine lv_iload_n hx hb dL_flag_22 rfl (lv_at hl 2 rfl) ?_
  refine lv_iload hx hb dL_flag_23 (lv_at hl 4 rfl) ?_
  refine x_contT (x_VT hx hb hml hown hE hS hl.1 cyX6_setAgain tw451 hT ⟨Nat.le_refl _, Nat.le_refl _⟩ ⟨Nat.le_of_eq (Nat.zero_add _), Nat.le_of_eq (Nat.zero_add _)⟩ (x_recv hK hH (id := [0]) hd0 (ci := 6) rfl (by decide) rfl) hH rfl rfl (Nat.le_of_ble_eq_true rfl) dL_flag_25) hS (fun ce q9 H1 locs1 hp1 hS1 hce hcv hcl => ?_)
  refine x_catch hown hE htab [⟨0, 36, 37, 19⟩, ⟨0, 36, 43, 30⟩] ⟨0, 36, 49, 13⟩ [] rfl (fun z hz => by
        simp only [List.mem_cons, List.not_mem_nil, or_false] at hz
        rcases hz with rfl | rfl
        · exact Or.inr ⟨by decide, _, tw241, hE.ls _ (List.mem_of_getElem? (i := 3) rfl)⟩
        · exact Or.inr ⟨by decide, _, tw367, hE.ls _ (List.mem_of_getElem? (i := 9) rfl)⟩) rfl (by decide) tw163 cfIS hce hcv hcl ?_
  refine lv_astore (lv' := [(5, .ref q9), (0, .ref (ga g [0])), (1, .int y0), (2, .int y1), (3, .int 109), (4, .int y2)]) hx hb dL_flag_49 hl (by decide) rfl (fun ls hl => ?_)
  refine lv_sipush (v := (-1003)) hx hb dL_flag_51 (by decide) ?_
  refine W.widen (k := 1) (n := 6) (by omega) (by omega) ?_
  exact x_iret hx hb hr hlocks hS1 dL_flag_54 rfl hp1

set_option maxHeartbeats 1000000 in
set_option maxRecDepth 100000 in
theorem w_limit (l : Launch) (g : xG) (dm : List Nat → Prop) (I : xI) (F : xF) (n fr lo mc ms mc' ms' : Nat) (y0 y1 y2 : Int32) (v : Int32) (Post Post' : Heap → Prop) (hd0 : dm [0]) (hmc : mc ≤ mc' ∧ ms ≤ ms') (hpp : ∀ H, Post H → Post' H) (hM : xM l yX6_setLimit (xws yX6_setLimit cX6_setLimit 7 (some FieldType.int)) fr lo g [.ref (ga g [0]), .int y0, .int y1, .int y2] (xR g dm I F n) (some (.int v)) Post mc ms) : xMl l yL_limit cL_limit 5 (some FieldType.int) [(0, 7, 8, 19), (0, 7, 14, 21), (0, 7, 20, 30), (0, 7, 26, 13)] (fr + 1) (8 + (7 + 11) + lo) g [.ref (ga g [0]), .int y0, .int y1, .int y2] (xR g dm I F n) (some (.int v)) Post' mc' ms' := by
  refine xMl.of (by decide) (Nat.le_of_ble_eq_true rfl) ?_
  intro P_ e_ s m_ bl_ mt_ cd_ ls hx hb hr hown hlocks hml htab hE hK hts hH hS hl
  have hl : lv_has ls 5 [(0, .ref (ga g [0])), (1, .int y0), (2, .int y1), (3, .int y2)] := hl
  refine lv_aload_n hx hb dL_limit_0 rfl (lv_at hl 0 rfl) ?_
  refine lv_iload_n hx hb dL_limit_1 rfl (lv_at hl 1 rfl) ?_
  refine lv_iload_n hx hb dL_limit_2 rfl (lv_at hl 2 rfl) ?_
  refine lv_iload_n hx hb dL_limit_3 rfl (lv_at hl 3 rfl) ?_
  refine x_V1 hx hb hml hown hE hS hl.1 cyX6_setLimit tw459 hM ⟨Nat.le_refl _, Nat.le_refl _⟩ ⟨(Nat.zero_add mc).symm ▸ hmc.1, (Nat.zero_add ms).symm ▸ hmc.2⟩ (x_recv hK hH (id := [0]) hd0 (ci := 6) rfl (by decide) rfl) hH rfl rfl (Nat.le_of_ble_eq_true rfl) dL_limit_4 (fun H locs hP hS => ?_)
  refine W.widen (k := mc') (n := ms') (by omega) (by omega) ?_
  exact x_iret hx hb hr hlocks hS dL_limit_7 rfl (hpp _ hP)

set_option maxHeartbeats 1000000 in
set_option maxRecDepth 100000 in
theorem w_limit_eIO (l : Launch) (g : xG) (dm : List Nat → Prop) (I : xI) (F : xF) (n fr lo : Nat) (y0 y1 y2 : Int32) (hd0 : dm [0]) (hT : xTc l yX6_setLimit (xws yX6_setLimit cX6_setLimit 7 (some FieldType.int)) fr lo g [.ref (ga g [0]), .int y0, .int y1, .int y2] (xR g dm I F n) eIO (xG_ g dm I F n) 1 6) : xMl l yL_limit cL_limit 5 (some FieldType.int) [(0, 7, 8, 19), (0, 7, 14, 21), (0, 7, 20, 30), (0, 7, 26, 13)] (fr + 1) (8 + (7 + 11) + lo) g [.ref (ga g [0]), .int y0, .int y1, .int y2] (xR g dm I F n) (some (.int (-1001))) (xG_ g dm I F n) 1 6 := by
  refine xMl.of (by decide) (Nat.le_of_ble_eq_true rfl) ?_
  intro P_ e_ s m_ bl_ mt_ cd_ ls hx hb hr hown hlocks hml htab hE hK hts hH hS hl
  have hl : lv_has ls 5 [(0, .ref (ga g [0])), (1, .int y0), (2, .int y1), (3, .int y2)] := hl
  refine lv_aload_n hx hb dL_limit_0 rfl (lv_at hl 0 rfl) ?_
  refine lv_iload_n hx hb dL_limit_1 rfl (lv_at hl 1 rfl) ?_
  refine lv_iload_n hx hb dL_limit_2 rfl (lv_at hl 2 rfl) ?_
  refine lv_iload_n hx hb dL_limit_3 rfl (lv_at hl 3 rfl) ?_
  refine x_contT (x_VT hx hb hml hown hE hS hl.1 cyX6_setLimit tw459 hT ⟨Nat.le_refl _, Nat.le_refl _⟩ ⟨Nat.le_of_eq (Nat.zero_add _), Nat.le_of_eq (Nat.zero_add _)⟩ (x_recv hK hH (id := [0]) hd0 (ci := 6) rfl (by decide) rfl) hH rfl rfl (Nat.le_of_ble_eq_true rfl) dL_limit_4) hS (fun ce q9 H1 locs1 hp1 hS1 hce hcv hcl => ?_)
  refine x_catch hown hE htab [] ⟨0, 7, 8, 19⟩ [⟨0, 7, 14, 21⟩, ⟨0, 7, 20, 30⟩, ⟨0, 7, 26, 13⟩] rfl (fun z hz => absurd hz List.not_mem_nil) rfl (by decide) tw241 cfIO hce hcv hcl ?_
  refine lv_astore (lv' := [(4, .ref q9), (0, .ref (ga g [0])), (1, .int y0), (2, .int y1), (3, .int y2)]) hx hb dL_limit_8 hl (by decide) rfl (fun ls hl => ?_)
  refine lv_sipush (v := (-1001)) hx hb dL_limit_10 (by decide) ?_
  refine W.widen (k := 1) (n := 6) (by omega) (by omega) ?_
  exact x_iret hx hb hr hlocks hS1 dL_limit_13 rfl hp1

set_option maxHeartbeats 1000000 in
set_option maxRecDepth 100000 in
theorem w_limit_eIA (l : Launch) (g : xG) (dm : List Nat → Prop) (I : xI) (F : xF) (n fr lo : Nat) (y0 y1 y2 : Int32) (hd0 : dm [0]) (hT : xTc l yX6_setLimit (xws yX6_setLimit cX6_setLimit 7 (some FieldType.int)) fr lo g [.ref (ga g [0]), .int y0, .int y1, .int y2] (xR g dm I F n) eIA (xG_ g dm I F n) 1 6) : xMl l yL_limit cL_limit 5 (some FieldType.int) [(0, 7, 8, 19), (0, 7, 14, 21), (0, 7, 20, 30), (0, 7, 26, 13)] (fr + 1) (8 + (7 + 11) + lo) g [.ref (ga g [0]), .int y0, .int y1, .int y2] (xR g dm I F n) (some (.int (-1002))) (xG_ g dm I F n) 1 6 := by
  refine xMl.of (by decide) (Nat.le_of_ble_eq_true rfl) ?_
  intro P_ e_ s m_ bl_ mt_ cd_ ls hx hb hr hown hlocks hml htab hE hK hts hH hS hl
  have hl : lv_has ls 5 [(0, .ref (ga g [0])), (1, .int y0), (2, .int y1), (3, .int y2)] := hl
  refine lv_aload_n hx hb dL_limit_0 rfl (lv_at hl 0 rfl) ?_
  refine lv_iload_n hx hb dL_limit_1 rfl (lv_at hl 1 rfl) ?_
  refine lv_iload_n hx hb dL_limit_2 rfl (lv_at hl 2 rfl) ?_
  refine lv_iload_n hx hb dL_limit_3 rfl (lv_at hl 3 rfl) ?_
  refine x_contT (x_VT hx hb hml hown hE hS hl.1 cyX6_setLimit tw459 hT ⟨Nat.le_refl _, Nat.le_refl _⟩ ⟨Nat.le_of_eq (Nat.zero_add _), Nat.le_of_eq (Nat.zero_add _)⟩ (x_recv hK hH (id := [0]) hd0 (ci := 6) rfl (by decide) rfl) hH rfl rfl (Nat.le_of_ble_eq_true rfl) dL_limit_4) hS (fun ce q9 H1 locs1 hp1 hS1 hce hcv hcl => ?_)
  refine x_catch hown hE htab [⟨0, 7, 8, 19⟩] ⟨0, 7, 14, 21⟩ [⟨0, 7, 20, 30⟩, ⟨0, 7, 26, 13⟩] rfl (fun z hz => by
        simp only [List.mem_cons, List.not_mem_nil, or_false] at hz
        rcases hz with rfl
        exact Or.inr ⟨by decide, _, tw241, hE.ls _ (List.mem_of_getElem? (i := 4) rfl)⟩) rfl (by decide) tw242 cfIA hce hcv hcl ?_
  refine lv_astore (lv' := [(4, .ref q9), (0, .ref (ga g [0])), (1, .int y0), (2, .int y1), (3, .int y2)]) hx hb dL_limit_14 hl (by decide) rfl (fun ls hl => ?_)
  refine lv_sipush (v := (-1002)) hx hb dL_limit_16 (by decide) ?_
  refine W.widen (k := 1) (n := 6) (by omega) (by omega) ?_
  exact x_iret hx hb hr hlocks hS1 dL_limit_19 rfl hp1

set_option maxHeartbeats 1000000 in
set_option maxRecDepth 100000 in
theorem w_limit_eUO (l : Launch) (g : xG) (dm : List Nat → Prop) (I : xI) (F : xF) (n fr lo : Nat) (y0 y1 y2 : Int32) (hd0 : dm [0]) (hT : xTc l yX6_setLimit (xws yX6_setLimit cX6_setLimit 7 (some FieldType.int)) fr lo g [.ref (ga g [0]), .int y0, .int y1, .int y2] (xR g dm I F n) eUO (xG_ g dm I F n) 1 6) : xMl l yL_limit cL_limit 5 (some FieldType.int) [(0, 7, 8, 19), (0, 7, 14, 21), (0, 7, 20, 30), (0, 7, 26, 13)] (fr + 1) (8 + (7 + 11) + lo) g [.ref (ga g [0]), .int y0, .int y1, .int y2] (xR g dm I F n) (some (.int (-1003))) (xG_ g dm I F n) 1 6 := by
  refine xMl.of (by decide) (Nat.le_of_ble_eq_true rfl) ?_
  intro P_ e_ s m_ bl_ mt_ cd_ ls hx hb hr hown hlocks hml htab hE hK hts hH hS hl
  have hl : lv_has ls 5 [(0, .ref (ga g [0])), (1, .int y0), (2, .int y1), (3, .int y2)] := hl
  refine lv_aload_n hx hb dL_limit_0 rfl (lv_at hl 0 rfl) ?_
  refine lv_iload_n hx hb dL_limit_1 rfl (lv_at hl 1 rfl) ?_
  refine lv_iload_n hx hb dL_limit_2 rfl (lv_at hl 2 rfl) ?_
  refine lv_iload_n hx hb dL_limit_3 rfl (lv_at hl 3 rfl) ?_
  refine x_contT (x_VT hx hb hml hown hE hS hl.1 cyX6_setLimit tw459 hT ⟨Nat.le_refl _, Nat.le_refl _⟩ ⟨Nat.le_of_eq (Nat.zero_add _), Nat.le_of_eq (Nat.zero_add _)⟩ (x_recv hK hH (id := [0]) hd0 (ci := 6) rfl (by decide) rfl) hH rfl rfl (Nat.le_of_ble_eq_true rfl) dL_limit_4) hS (fun ce q9 H1 locs1 hp1 hS1 hce hcv hcl => ?_)
  refine x_catch hown hE htab [⟨0, 7, 8, 19⟩, ⟨0, 7, 14, 21⟩] ⟨0, 7, 20, 30⟩ [⟨0, 7, 26, 13⟩] rfl (fun z hz => by
        simp only [List.mem_cons, List.not_mem_nil, or_false] at hz
        rcases hz with rfl | rfl
        · exact Or.inr ⟨by decide, _, tw241, hE.ls _ (List.mem_of_getElem? (i := 5) rfl)⟩
        · exact Or.inr ⟨by decide, _, tw242, hE.ls _ (List.mem_of_getElem? (i := 8) rfl)⟩) rfl (by decide) tw367 cfUO hce hcv hcl ?_
  refine lv_astore (lv' := [(4, .ref q9), (0, .ref (ga g [0])), (1, .int y0), (2, .int y1), (3, .int y2)]) hx hb dL_limit_20 hl (by decide) rfl (fun ls hl => ?_)
  refine lv_sipush (v := (-1003)) hx hb dL_limit_22 (by decide) ?_
  refine W.widen (k := 1) (n := 6) (by omega) (by omega) ?_
  exact x_iret hx hb hr hlocks hS1 dL_limit_25 rfl hp1

set_option maxHeartbeats 1000000 in
set_option maxRecDepth 100000 in
theorem w_limit_eIS (l : Launch) (g : xG) (dm : List Nat → Prop) (I : xI) (F : xF) (n fr lo : Nat) (y0 y1 y2 : Int32) (hd0 : dm [0]) (hT : xTc l yX6_setLimit (xws yX6_setLimit cX6_setLimit 7 (some FieldType.int)) fr lo g [.ref (ga g [0]), .int y0, .int y1, .int y2] (xR g dm I F n) eIS (xG_ g dm I F n) 1 6) : xMl l yL_limit cL_limit 5 (some FieldType.int) [(0, 7, 8, 19), (0, 7, 14, 21), (0, 7, 20, 30), (0, 7, 26, 13)] (fr + 1) (8 + (7 + 11) + lo) g [.ref (ga g [0]), .int y0, .int y1, .int y2] (xR g dm I F n) (some (.int (-1004))) (xG_ g dm I F n) 1 6 := by
  refine xMl.of (by decide) (Nat.le_of_ble_eq_true rfl) ?_
  intro P_ e_ s m_ bl_ mt_ cd_ ls hx hb hr hown hlocks hml htab hE hK hts hH hS hl
  have hl : lv_has ls 5 [(0, .ref (ga g [0])), (1, .int y0), (2, .int y1), (3, .int y2)] := hl
  refine lv_aload_n hx hb dL_limit_0 rfl (lv_at hl 0 rfl) ?_
  refine lv_iload_n hx hb dL_limit_1 rfl (lv_at hl 1 rfl) ?_
  refine lv_iload_n hx hb dL_limit_2 rfl (lv_at hl 2 rfl) ?_
  refine lv_iload_n hx hb dL_limit_3 rfl (lv_at hl 3 rfl) ?_
  refine x_contT (x_VT hx hb hml hown hE hS hl.1 cyX6_setLimit tw459 hT ⟨Nat.le_refl _, Nat.le_refl _⟩ ⟨Nat.le_of_eq (Nat.zero_add _), Nat.le_of_eq (Nat.zero_add _)⟩ (x_recv hK hH (id := [0]) hd0 (ci := 6) rfl (by decide) rfl) hH rfl rfl (Nat.le_of_ble_eq_true rfl) dL_limit_4) hS (fun ce q9 H1 locs1 hp1 hS1 hce hcv hcl => ?_)
  refine x_catch hown hE htab [⟨0, 7, 8, 19⟩, ⟨0, 7, 14, 21⟩, ⟨0, 7, 20, 30⟩] ⟨0, 7, 26, 13⟩ [] rfl (fun z hz => by
        simp only [List.mem_cons, List.not_mem_nil, or_false] at hz
        rcases hz with rfl | rfl | rfl
        · exact Or.inr ⟨by decide, _, tw241, hE.ls _ (List.mem_of_getElem? (i := 3) rfl)⟩
        · exact Or.inr ⟨by decide, _, tw242, hE.ls _ (List.mem_of_getElem? (i := 7) rfl)⟩
        · exact Or.inr ⟨by decide, _, tw367, hE.ls _ (List.mem_of_getElem? (i := 9) rfl)⟩) rfl (by decide) tw163 cfIS hce hcv hcl ?_
  refine lv_astore (lv' := [(4, .ref q9), (0, .ref (ga g [0])), (1, .int y0), (2, .int y1), (3, .int y2)]) hx hb dL_limit_26 hl (by decide) rfl (fun ls hl => ?_)
  refine lv_sipush (v := (-1004)) hx hb dL_limit_28 (by decide) ?_
  refine W.widen (k := 1) (n := 6) (by omega) (by omega) ?_
  exact x_iret hx hb hr hlocks hS1 dL_limit_31 rfl hp1

set_option maxHeartbeats 1000000 in
set_option maxRecDepth 100000 in
theorem w_of1 (l : Launch) (g : xG) (dm : List Nat → Prop) (I : xI) (F : xF) (n fr lo mc ms mc' ms' : Nat) (y0 : Int32) (v : Int32) (Post Post' : Heap → Prop) (hv : sBo v) (hd0 : dm [0]) (hmc : mc ≤ mc' ∧ ms ≤ ms') (hpp : ∀ H, Post H → Post' H) (hM : xM l yX6_isUsed (xws yX6_isUsed cX6_isUsed 2 (some FieldType.boolean)) fr lo g [.ref (ga g [0]), .int y0] (xR g dm I F n) (some (.int v)) Post mc ms) : xMl l yL_of cL_of 4 (some FieldType.int) [(0, 25, 26, 19)] (fr + 1) (8 + (2 + 11) + lo) g [.ref (ga g [0]), .int y0, .int 1] (xR g dm I F n) (some (.int v)) Post' mc' ms' := by
  refine xMl.of (by decide) (Nat.le_of_ble_eq_true rfl) ?_
  intro P_ e_ s m_ bl_ mt_ cd_ ls hx hb hr hown hlocks hml htab hE hK hts hH hS hl
  have hl : lv_has ls 4 [(0, .ref (ga g [0])), (1, .int y0), (2, .int 1)] := hl
  refine lv_iload_n hx hb dL_of_0 rfl (lv_at hl 2 rfl) ?_
  refine lv_if_eq (tgt := 20) hx hb dL_of_1 (by decide) (fun q_ => absurd q_ (by decide)) (fun _ => ?_)
  refine lv_aload_n hx hb dL_of_4 rfl (lv_at hl 0 rfl) ?_
  refine lv_iload_n hx hb dL_of_5 rfl (lv_at hl 1 rfl) ?_
  refine x_V1 hx hb hml hown hE hS hl.1 cyX6_isUsed tw467 hM ⟨Nat.le_refl _, Nat.le_refl _⟩ ⟨(Nat.zero_add mc).symm ▸ hmc.1, (Nat.zero_add ms).symm ▸ hmc.2⟩ (x_recv hK hH (id := [0]) hd0 (ci := 6) rfl (by decide) rfl) hH rfl rfl (Nat.le_of_ble_eq_true rfl) dL_of_6 (fun H locs hP hS => ?_)
  rcases hv with hv | hv
  · refine lv_if_eq (tgt := 16) hx hb dL_of_9 (by decide) (fun _ => ?_) (fun q_ => absurd hv q_)
    refine lv_iconst (v := 0) hx hb dL_of_16 (by decide) ?_
    refine lv_goto (tgt := 25) hx hb dL_of_17 (by decide) ?_
    refine W.widen (k := mc') (n := ms') (by omega) (by omega) ?_
    exact x_iret hx hb hr hlocks hS dL_of_25 hv.symm (hpp _ hP)
  · refine lv_if_eq (tgt := 16) hx hb dL_of_9 (by decide) (fun q_ => absurd q_ (by rw [hv]; decide)) (fun _ => ?_)
    refine lv_iconst (v := 1) hx hb dL_of_12 (by decide) ?_
    refine lv_goto (tgt := 25) hx hb dL_of_13 (by decide) ?_
    refine W.widen (k := mc') (n := ms') (by omega) (by omega) ?_
    exact x_iret hx hb hr hlocks hS dL_of_25 hv.symm (hpp _ hP)

set_option maxHeartbeats 1000000 in
set_option maxRecDepth 100000 in
theorem w_of1_eIO (l : Launch) (g : xG) (dm : List Nat → Prop) (I : xI) (F : xF) (n fr lo : Nat) (y0 : Int32) (hd0 : dm [0]) (hT : xTc l yX6_isUsed (xws yX6_isUsed cX6_isUsed 2 (some FieldType.boolean)) fr lo g [.ref (ga g [0]), .int y0] (xR g dm I F n) eIO (xG_ g dm I F n) 1 6) : xMl l yL_of cL_of 4 (some FieldType.int) [(0, 25, 26, 19)] (fr + 1) (8 + (2 + 11) + lo) g [.ref (ga g [0]), .int y0, .int 1] (xR g dm I F n) (some (.int (-1001))) (xG_ g dm I F n) 1 6 := by
  refine xMl.of (by decide) (Nat.le_of_ble_eq_true rfl) ?_
  intro P_ e_ s m_ bl_ mt_ cd_ ls hx hb hr hown hlocks hml htab hE hK hts hH hS hl
  have hl : lv_has ls 4 [(0, .ref (ga g [0])), (1, .int y0), (2, .int 1)] := hl
  refine lv_iload_n hx hb dL_of_0 rfl (lv_at hl 2 rfl) ?_
  refine lv_if_eq (tgt := 20) hx hb dL_of_1 (by decide) (fun q_ => absurd q_ (by decide)) (fun _ => ?_)
  refine lv_aload_n hx hb dL_of_4 rfl (lv_at hl 0 rfl) ?_
  refine lv_iload_n hx hb dL_of_5 rfl (lv_at hl 1 rfl) ?_
  refine x_contT (x_VT hx hb hml hown hE hS hl.1 cyX6_isUsed tw467 hT ⟨Nat.le_refl _, Nat.le_refl _⟩ ⟨Nat.le_of_eq (Nat.zero_add _), Nat.le_of_eq (Nat.zero_add _)⟩ (x_recv hK hH (id := [0]) hd0 (ci := 6) rfl (by decide) rfl) hH rfl rfl (Nat.le_of_ble_eq_true rfl) dL_of_6) hS (fun ce q9 H1 locs1 hp1 hS1 hce hcv hcl => ?_)
  refine x_catch hown hE htab [] ⟨0, 25, 26, 19⟩ [] rfl (fun z hz => absurd hz List.not_mem_nil) rfl (by decide) tw241 cfIO hce hcv hcl ?_
  refine lv_astore_n (lv' := [(3, .ref q9), (0, .ref (ga g [0])), (1, .int y0), (2, .int 1)]) hx hb dL_of_26 rfl hl (by decide) rfl (fun ls hl => ?_)
  refine lv_sipush (v := (-1001)) hx hb dL_of_27 (by decide) ?_
  refine W.widen (k := 1) (n := 6) (by omega) (by omega) ?_
  exact x_iret hx hb hr hlocks hS1 dL_of_30 rfl hp1

set_option maxHeartbeats 1000000 in
set_option maxRecDepth 100000 in
theorem w_of0 (l : Launch) (g : xG) (dm : List Nat → Prop) (I : xI) (F : xF) (n fr lo mc ms mc' ms' : Nat) (y0 : Int32) (v : Int32) (Post Post' : Heap → Prop) (hd0 : dm [0]) (hmc : mc ≤ mc' ∧ ms ≤ ms') (hpp : ∀ H, Post H → Post' H) (hM : xM l yX6_steps (xws yX6_steps cX6_steps 2 (some FieldType.int)) fr lo g [.ref (ga g [0]), .int y0] (xR g dm I F n) (some (.int v)) Post mc ms) : xMl l yL_of cL_of 4 (some FieldType.int) [(0, 25, 26, 19)] (fr + 1) (8 + (2 + 11) + lo) g [.ref (ga g [0]), .int y0, .int 0] (xR g dm I F n) (some (.int v)) Post' mc' ms' := by
  refine xMl.of (by decide) (Nat.le_of_ble_eq_true rfl) ?_
  intro P_ e_ s m_ bl_ mt_ cd_ ls hx hb hr hown hlocks hml htab hE hK hts hH hS hl
  have hl : lv_has ls 4 [(0, .ref (ga g [0])), (1, .int y0), (2, .int 0)] := hl
  refine lv_iload_n hx hb dL_of_0 rfl (lv_at hl 2 rfl) ?_
  refine lv_if_eq (tgt := 20) hx hb dL_of_1 (by decide) (fun _ => ?_) (fun q_ => absurd (by decide) q_)
  refine lv_aload_n hx hb dL_of_20 rfl (lv_at hl 0 rfl) ?_
  refine lv_iload_n hx hb dL_of_21 rfl (lv_at hl 1 rfl) ?_
  refine x_V1 hx hb hml hown hE hS hl.1 cyX6_steps tw471 hM ⟨Nat.le_refl _, Nat.le_refl _⟩ ⟨(Nat.zero_add mc).symm ▸ hmc.1, (Nat.zero_add ms).symm ▸ hmc.2⟩ (x_recv hK hH (id := [0]) hd0 (ci := 6) rfl (by decide) rfl) hH rfl rfl (Nat.le_of_ble_eq_true rfl) dL_of_22 (fun H locs hP hS => ?_)
  refine W.widen (k := mc') (n := ms') (by omega) (by omega) ?_
  exact x_iret hx hb hr hlocks hS dL_of_25 rfl (hpp _ hP)

set_option maxHeartbeats 1000000 in
set_option maxRecDepth 100000 in
theorem w_of0_eIO (l : Launch) (g : xG) (dm : List Nat → Prop) (I : xI) (F : xF) (n fr lo : Nat) (y0 : Int32) (hd0 : dm [0]) (hT : xTc l yX6_steps (xws yX6_steps cX6_steps 2 (some FieldType.int)) fr lo g [.ref (ga g [0]), .int y0] (xR g dm I F n) eIO (xG_ g dm I F n) 1 6) : xMl l yL_of cL_of 4 (some FieldType.int) [(0, 25, 26, 19)] (fr + 1) (8 + (2 + 11) + lo) g [.ref (ga g [0]), .int y0, .int 0] (xR g dm I F n) (some (.int (-1001))) (xG_ g dm I F n) 1 6 := by
  refine xMl.of (by decide) (Nat.le_of_ble_eq_true rfl) ?_
  intro P_ e_ s m_ bl_ mt_ cd_ ls hx hb hr hown hlocks hml htab hE hK hts hH hS hl
  have hl : lv_has ls 4 [(0, .ref (ga g [0])), (1, .int y0), (2, .int 0)] := hl
  refine lv_iload_n hx hb dL_of_0 rfl (lv_at hl 2 rfl) ?_
  refine lv_if_eq (tgt := 20) hx hb dL_of_1 (by decide) (fun _ => ?_) (fun q_ => absurd (by decide) q_)
  refine lv_aload_n hx hb dL_of_20 rfl (lv_at hl 0 rfl) ?_
  refine lv_iload_n hx hb dL_of_21 rfl (lv_at hl 1 rfl) ?_
  refine x_contT (x_VT hx hb hml hown hE hS hl.1 cyX6_steps tw471 hT ⟨Nat.le_refl _, Nat.le_refl _⟩ ⟨Nat.le_of_eq (Nat.zero_add _), Nat.le_of_eq (Nat.zero_add _)⟩ (x_recv hK hH (id := [0]) hd0 (ci := 6) rfl (by decide) rfl) hH rfl rfl (Nat.le_of_ble_eq_true rfl) dL_of_22) hS (fun ce q9 H1 locs1 hp1 hS1 hce hcv hcl => ?_)
  refine x_catch hown hE htab [] ⟨0, 25, 26, 19⟩ [] rfl (fun z hz => absurd hz List.not_mem_nil) rfl (by decide) tw241 cfIO hce hcv hcl ?_
  refine lv_astore_n (lv' := [(3, .ref q9), (0, .ref (ga g [0])), (1, .int y0), (2, .int 0)]) hx hb dL_of_26 rfl hl (by decide) rfl (fun ls hl => ?_)
  refine lv_sipush (v := (-1001)) hx hb dL_of_27 (by decide) ?_
  refine W.widen (k := 1) (n := 6) (by omega) (by omega) ?_
  exact x_iret hx hb hr hlocks hS1 dL_of_30 rfl hp1

set_option maxHeartbeats 1000000 in
set_option maxRecDepth 100000 in
theorem w_begin (l : Launch) (g : xG) (dm : List Nat → Prop) (I : xI) (F : xF) (n fr lo mc ms mc' ms' : Nat) (y0 : Int32) (v : Int32) (Post Post' : Heap → Prop) (hd0 : dm [0]) (hmc : mc ≤ mc' ∧ ms ≤ ms') (hpp : ∀ H, Post H → Post' H) (hM : xM l yX6_begin (xws yX6_begin cX6_begin 5 (some FieldType.int)) fr lo g [.ref (ga g [0]), .int y0] (xR g dm I F n) (some (.int v)) Post mc ms) : xMl l yL_begin cL_begin 3 (some FieldType.int) [(0, 5, 6, 19), (0, 5, 11, 13)] (fr + 1) (8 + (5 + 11) + lo) g [.ref (ga g [0]), .int y0] (xR g dm I F n) (some (.int v)) Post' mc' ms' := by
  refine xMl.of (by decide) (Nat.le_of_ble_eq_true rfl) ?_
  intro P_ e_ s m_ bl_ mt_ cd_ ls hx hb hr hown hlocks hml htab hE hK hts hH hS hl
  have hl : lv_has ls 3 [(0, .ref (ga g [0])), (1, .int y0)] := hl
  refine lv_aload_n hx hb dL_begin_0 rfl (lv_at hl 0 rfl) ?_
  refine lv_iload_n hx hb dL_begin_1 rfl (lv_at hl 1 rfl) ?_
  refine x_V1 hx hb hml hown hE hS hl.1 cyX6_begin tw478 hM ⟨Nat.le_refl _, Nat.le_refl _⟩ ⟨(Nat.zero_add mc).symm ▸ hmc.1, (Nat.zero_add ms).symm ▸ hmc.2⟩ (x_recv hK hH (id := [0]) hd0 (ci := 6) rfl (by decide) rfl) hH rfl rfl (Nat.le_of_ble_eq_true rfl) dL_begin_2 (fun H locs hP hS => ?_)
  refine W.widen (k := mc') (n := ms') (by omega) (by omega) ?_
  exact x_iret hx hb hr hlocks hS dL_begin_5 rfl (hpp _ hP)

set_option maxHeartbeats 1000000 in
set_option maxRecDepth 100000 in
theorem w_begin_eIO (l : Launch) (g : xG) (dm : List Nat → Prop) (I : xI) (F : xF) (n fr lo : Nat) (y0 : Int32) (hd0 : dm [0]) (hT : xTc l yX6_begin (xws yX6_begin cX6_begin 5 (some FieldType.int)) fr lo g [.ref (ga g [0]), .int y0] (xR g dm I F n) eIO (xG_ g dm I F n) 1 6) : xMl l yL_begin cL_begin 3 (some FieldType.int) [(0, 5, 6, 19), (0, 5, 11, 13)] (fr + 1) (8 + (5 + 11) + lo) g [.ref (ga g [0]), .int y0] (xR g dm I F n) (some (.int (-1001))) (xG_ g dm I F n) 1 6 := by
  refine xMl.of (by decide) (Nat.le_of_ble_eq_true rfl) ?_
  intro P_ e_ s m_ bl_ mt_ cd_ ls hx hb hr hown hlocks hml htab hE hK hts hH hS hl
  have hl : lv_has ls 3 [(0, .ref (ga g [0])), (1, .int y0)] := hl
  refine lv_aload_n hx hb dL_begin_0 rfl (lv_at hl 0 rfl) ?_
  refine lv_iload_n hx hb dL_begin_1 rfl (lv_at hl 1 rfl) ?_
  refine x_contT (x_VT hx hb hml hown hE hS hl.1 cyX6_begin tw478 hT ⟨Nat.le_refl _, Nat.le_refl _⟩ ⟨Nat.le_of_eq (Nat.zero_add _), Nat.le_of_eq (Nat.zero_add _)⟩ (x_recv hK hH (id := [0]) hd0 (ci := 6) rfl (by decide) rfl) hH rfl rfl (Nat.le_of_ble_eq_true rfl) dL_begin_2) hS (fun ce q9 H1 locs1 hp1 hS1 hce hcv hcl => ?_)
  refine x_catch hown hE htab [] ⟨0, 5, 6, 19⟩ [⟨0, 5, 11, 13⟩] rfl (fun z hz => absurd hz List.not_mem_nil) rfl (by decide) tw241 cfIO hce hcv hcl ?_
  refine lv_astore_n (lv' := [(2, .ref q9), (0, .ref (ga g [0])), (1, .int y0)]) hx hb dL_begin_6 rfl hl (by decide) rfl (fun ls hl => ?_)
  refine lv_sipush (v := (-1001)) hx hb dL_begin_7 (by decide) ?_
  refine W.widen (k := 1) (n := 6) (by omega) (by omega) ?_
  exact x_iret hx hb hr hlocks hS1 dL_begin_10 rfl hp1

set_option maxHeartbeats 1000000 in
set_option maxRecDepth 100000 in
theorem w_begin_eIS (l : Launch) (g : xG) (dm : List Nat → Prop) (I : xI) (F : xF) (n fr lo : Nat) (y0 : Int32) (hd0 : dm [0]) (hT : xTc l yX6_begin (xws yX6_begin cX6_begin 5 (some FieldType.int)) fr lo g [.ref (ga g [0]), .int y0] (xR g dm I F n) eIS (xG_ g dm I F n) 1 6) : xMl l yL_begin cL_begin 3 (some FieldType.int) [(0, 5, 6, 19), (0, 5, 11, 13)] (fr + 1) (8 + (5 + 11) + lo) g [.ref (ga g [0]), .int y0] (xR g dm I F n) (some (.int (-1002))) (xG_ g dm I F n) 1 6 := by
  refine xMl.of (by decide) (Nat.le_of_ble_eq_true rfl) ?_
  intro P_ e_ s m_ bl_ mt_ cd_ ls hx hb hr hown hlocks hml htab hE hK hts hH hS hl
  have hl : lv_has ls 3 [(0, .ref (ga g [0])), (1, .int y0)] := hl
  refine lv_aload_n hx hb dL_begin_0 rfl (lv_at hl 0 rfl) ?_
  refine lv_iload_n hx hb dL_begin_1 rfl (lv_at hl 1 rfl) ?_
  refine x_contT (x_VT hx hb hml hown hE hS hl.1 cyX6_begin tw478 hT ⟨Nat.le_refl _, Nat.le_refl _⟩ ⟨Nat.le_of_eq (Nat.zero_add _), Nat.le_of_eq (Nat.zero_add _)⟩ (x_recv hK hH (id := [0]) hd0 (ci := 6) rfl (by decide) rfl) hH rfl rfl (Nat.le_of_ble_eq_true rfl) dL_begin_2) hS (fun ce q9 H1 locs1 hp1 hS1 hce hcv hcl => ?_)
  refine x_catch hown hE htab [⟨0, 5, 6, 19⟩] ⟨0, 5, 11, 13⟩ [] rfl (fun z hz => by
        simp only [List.mem_cons, List.not_mem_nil, or_false] at hz
        rcases hz with rfl
        exact Or.inr ⟨by decide, _, tw241, hE.ls _ (List.mem_of_getElem? (i := 3) rfl)⟩) rfl (by decide) tw163 cfIS hce hcv hcl ?_
  refine lv_astore_n (lv' := [(2, .ref q9), (0, .ref (ga g [0])), (1, .int y0)]) hx hb dL_begin_11 rfl hl (by decide) rfl (fun ls hl => ?_)
  refine lv_sipush (v := (-1002)) hx hb dL_begin_12 (by decide) ?_
  refine W.widen (k := 1) (n := 6) (by omega) (by omega) ?_
  exact x_iret hx hb hr hlocks hS1 dL_begin_15 rfl hp1

set_option maxHeartbeats 1000000 in
set_option maxRecDepth 100000 in
theorem w_happensd (l : Launch) (g : xG) (dm : List Nat → Prop) (I : xI) (F : xF) (n fr lo mc ms mc' ms' : Nat) (y0 y1 y2 : Int32) (v : Int32) (Post Post' : Heap → Prop) (hd0 : dm [0]) (hmc : mc ≤ mc' ∧ ms ≤ ms') (hpp : ∀ H, Post H → Post' H) (hM : xM l yX6_set (xws yX6_set cX6_set 6 (some FieldType.int)) fr lo g [.ref (ga g [0]), .int y0, .int y1, .int y2] (xR g dm I F n) (some (.int v)) Post mc ms) : xMl l yL_happens cL_happens 6 (some FieldType.int) [(0, 38, 39, 19), (0, 38, 45, 21)] (fr + 1) (8 + (6 + 11) + lo) g [.ref (ga g [0]), .int y0, .int 100, .int y1, .int y2] (xR g dm I F n) (some (.int v)) Post' mc' ms' := by
  refine xMl.of (by decide) (Nat.le_of_ble_eq_true rfl) ?_
  intro P_ e_ s m_ bl_ mt_ cd_ ls hx hb hr hown hlocks hml htab hE hK hts hH hS hl
  have hl : lv_has ls 6 [(0, .ref (ga g [0])), (1, .int y0), (2, .int 100), (3, .int y1), (4, .int y2)] := hl
  refine lv_iload_n hx hb dL_happens_0 rfl (lv_at hl 2 rfl) ?_
  refine lv_bipush (v := 100) hx hb dL_happens_1 (by decide) ?_
  refine lv_icmp_ne (tgt := 17) hx hb dL_happens_3 (by decide) (fun q_ => absurd (by decide) q_) (fun _ => ?_)
  refine lv_aload_n hx hb dL_happens_6 rfl (lv_at hl 0 rfl) ?_
  refine lv_iload_n hx hb dL_happens_7 rfl (lv_at hl 1 rfl) ?_
  refine lv_iload_n hx hb dL_happens_8 rfl (lv_at hl 3 rfl) ?_
  refine lv_iload hx hb dL_happens_9 (lv_at hl 4 rfl) ?_
  refine x_V1 hx hb hml hown hE hS hl.1 cyX6_set tw567 hM ⟨Nat.le_refl _, Nat.le_refl _⟩ ⟨(Nat.zero_add mc).symm ▸ hmc.1, (Nat.zero_add ms).symm ▸ hmc.2⟩ (x_recv hK hH (id := [0]) hd0 (ci := 6) rfl (by decide) rfl) hH rfl rfl (Nat.le_of_ble_eq_true rfl) dL_happens_11 (fun H locs hP hS => ?_)
  refine lv_goto (tgt := 38) hx hb dL_happens_14 (by decide) ?_
  refine W.widen (k := mc') (n := ms') (by omega) (by omega) ?_
  exact x_iret hx hb hr hlocks hS dL_happens_38 rfl (hpp _ hP)

set_option maxHeartbeats 1000000 in
set_option maxRecDepth 100000 in
theorem w_happensd_eIO (l : Launch) (g : xG) (dm : List Nat → Prop) (I : xI) (F : xF) (n fr lo : Nat) (y0 y1 y2 : Int32) (hd0 : dm [0]) (hT : xTc l yX6_set (xws yX6_set cX6_set 6 (some FieldType.int)) fr lo g [.ref (ga g [0]), .int y0, .int y1, .int y2] (xR g dm I F n) eIO (xG_ g dm I F n) 1 6) : xMl l yL_happens cL_happens 6 (some FieldType.int) [(0, 38, 39, 19), (0, 38, 45, 21)] (fr + 1) (8 + (6 + 11) + lo) g [.ref (ga g [0]), .int y0, .int 100, .int y1, .int y2] (xR g dm I F n) (some (.int (-1001))) (xG_ g dm I F n) 1 6 := by
  refine xMl.of (by decide) (Nat.le_of_ble_eq_true rfl) ?_
  intro P_ e_ s m_ bl_ mt_ cd_ ls hx hb hr hown hlocks hml htab hE hK hts hH hS hl
  have hl : lv_has ls 6 [(0, .ref (ga g [0])), (1, .int y0), (2, .int 100), (3, .int y1), (4, .int y2)] := hl
  refine lv_iload_n hx hb dL_happens_0 rfl (lv_at hl 2 rfl) ?_
  refine lv_bipush (v := 100) hx hb dL_happens_1 (by decide) ?_
  refine lv_icmp_ne (tgt := 17) hx hb dL_happens_3 (by decide) (fun q_ => absurd (by decide) q_) (fun _ => ?_)
  refine lv_aload_n hx hb dL_happens_6 rfl (lv_at hl 0 rfl) ?_
  refine lv_iload_n hx hb dL_happens_7 rfl (lv_at hl 1 rfl) ?_
  refine lv_iload_n hx hb dL_happens_8 rfl (lv_at hl 3 rfl) ?_
  refine lv_iload hx hb dL_happens_9 (lv_at hl 4 rfl) ?_
  refine x_contT (x_VT hx hb hml hown hE hS hl.1 cyX6_set tw567 hT ⟨Nat.le_refl _, Nat.le_refl _⟩ ⟨Nat.le_of_eq (Nat.zero_add _), Nat.le_of_eq (Nat.zero_add _)⟩ (x_recv hK hH (id := [0]) hd0 (ci := 6) rfl (by decide) rfl) hH rfl rfl (Nat.le_of_ble_eq_true rfl) dL_happens_11) hS (fun ce q9 H1 locs1 hp1 hS1 hce hcv hcl => ?_)
  refine x_catch hown hE htab [] ⟨0, 38, 39, 19⟩ [⟨0, 38, 45, 21⟩] rfl (fun z hz => absurd hz List.not_mem_nil) rfl (by decide) tw241 cfIO hce hcv hcl ?_
  refine lv_astore (lv' := [(5, .ref q9), (0, .ref (ga g [0])), (1, .int y0), (2, .int 100), (3, .int y1), (4, .int y2)]) hx hb dL_happens_39 hl (by decide) rfl (fun ls hl => ?_)
  refine lv_sipush (v := (-1001)) hx hb dL_happens_41 (by decide) ?_
  refine W.widen (k := 1) (n := 6) (by omega) (by omega) ?_
  exact x_iret hx hb hr hlocks hS1 dL_happens_44 rfl hp1

set_option maxHeartbeats 1000000 in
set_option maxRecDepth 100000 in
theorem w_happensd_eIA (l : Launch) (g : xG) (dm : List Nat → Prop) (I : xI) (F : xF) (n fr lo : Nat) (y0 y1 y2 : Int32) (hd0 : dm [0]) (hT : xTc l yX6_set (xws yX6_set cX6_set 6 (some FieldType.int)) fr lo g [.ref (ga g [0]), .int y0, .int y1, .int y2] (xR g dm I F n) eIA (xG_ g dm I F n) 1 6) : xMl l yL_happens cL_happens 6 (some FieldType.int) [(0, 38, 39, 19), (0, 38, 45, 21)] (fr + 1) (8 + (6 + 11) + lo) g [.ref (ga g [0]), .int y0, .int 100, .int y1, .int y2] (xR g dm I F n) (some (.int (-1002))) (xG_ g dm I F n) 1 6 := by
  refine xMl.of (by decide) (Nat.le_of_ble_eq_true rfl) ?_
  intro P_ e_ s m_ bl_ mt_ cd_ ls hx hb hr hown hlocks hml htab hE hK hts hH hS hl
  have hl : lv_has ls 6 [(0, .ref (ga g [0])), (1, .int y0), (2, .int 100), (3, .int y1), (4, .int y2)] := hl
  refine lv_iload_n hx hb dL_happens_0 rfl (lv_at hl 2 rfl) ?_
  refine lv_bipush (v := 100) hx hb dL_happens_1 (by decide) ?_
  refine lv_icmp_ne (tgt := 17) hx hb dL_happens_3 (by decide) (fun q_ => absurd (by decide) q_) (fun _ => ?_)
  refine lv_aload_n hx hb dL_happens_6 rfl (lv_at hl 0 rfl) ?_
  refine lv_iload_n hx hb dL_happens_7 rfl (lv_at hl 1 rfl) ?_
  refine lv_iload_n hx hb dL_happens_8 rfl (lv_at hl 3 rfl) ?_
  refine lv_iload hx hb dL_happens_9 (lv_at hl 4 rfl) ?_
  refine x_contT (x_VT hx hb hml hown hE hS hl.1 cyX6_set tw567 hT ⟨Nat.le_refl _, Nat.le_refl _⟩ ⟨Nat.le_of_eq (Nat.zero_add _), Nat.le_of_eq (Nat.zero_add _)⟩ (x_recv hK hH (id := [0]) hd0 (ci := 6) rfl (by decide) rfl) hH rfl rfl (Nat.le_of_ble_eq_true rfl) dL_happens_11) hS (fun ce q9 H1 locs1 hp1 hS1 hce hcv hcl => ?_)
  refine x_catch hown hE htab [⟨0, 38, 39, 19⟩] ⟨0, 38, 45, 21⟩ [] rfl (fun z hz => by
        simp only [List.mem_cons, List.not_mem_nil, or_false] at hz
        rcases hz with rfl
        exact Or.inr ⟨by decide, _, tw241, hE.ls _ (List.mem_of_getElem? (i := 4) rfl)⟩) rfl (by decide) tw242 cfIA hce hcv hcl ?_
  refine lv_astore (lv' := [(5, .ref q9), (0, .ref (ga g [0])), (1, .int y0), (2, .int 100), (3, .int y1), (4, .int y2)]) hx hb dL_happens_45 hl (by decide) rfl (fun ls hl => ?_)
  refine lv_sipush (v := (-1002)) hx hb dL_happens_47 (by decide) ?_
  refine W.widen (k := 1) (n := 6) (by omega) (by omega) ?_
  exact x_iret hx hb hr hlocks hS1 dL_happens_50 rfl hp1

set_option maxHeartbeats 1000000 in
set_option maxRecDepth 100000 in
theorem w_happense (l : Launch) (g : xG) (dm : List Nat → Prop) (I : xI) (F : xF) (n fr lo mc ms mc' ms' : Nat) (y0 y1 y2 : Int32) (v : Int32) (Post Post' : Heap → Prop) (hd0 : dm [0]) (hmc : mc ≤ mc' ∧ ms ≤ ms') (hpp : ∀ H, Post H → Post' H) (hM : xM l yX6_event (xws yX6_event cX6_event 4 (some FieldType.int)) fr lo g [.ref (ga g [0]), .int y0, .int y1] (xR g dm I F n) (some (.int v)) Post mc ms) : xMl l yL_happens cL_happens 6 (some FieldType.int) [(0, 38, 39, 19), (0, 38, 45, 21)] (fr + 1) (8 + (4 + 11) + lo) g [.ref (ga g [0]), .int y0, .int 101, .int y1, .int y2] (xR g dm I F n) (some (.int v)) Post' mc' ms' := by
  refine xMl.of (by decide) (Nat.le_of_ble_eq_true rfl) ?_
  intro P_ e_ s m_ bl_ mt_ cd_ ls hx hb hr hown hlocks hml htab hE hK hts hH hS hl
  have hl : lv_has ls 6 [(0, .ref (ga g [0])), (1, .int y0), (2, .int 101), (3, .int y1), (4, .int y2)] := hl
  refine lv_iload_n hx hb dL_happens_0 rfl (lv_at hl 2 rfl) ?_
  refine lv_bipush (v := 100) hx hb dL_happens_1 (by decide) ?_
  refine lv_icmp_ne (tgt := 17) hx hb dL_happens_3 (by decide) (fun _ => ?_) (fun q_ => absurd q_ (by decide))
  refine lv_iload_n hx hb dL_happens_17 rfl (lv_at hl 2 rfl) ?_
  refine lv_bipush (v := 101) hx hb dL_happens_18 (by decide) ?_
  refine lv_icmp_ne (tgt := 32) hx hb dL_happens_20 (by decide) (fun q_ => absurd (by decide) q_) (fun _ => ?_)
  refine lv_aload_n hx hb dL_happens_23 rfl (lv_at hl 0 rfl) ?_
  refine lv_iload_n hx hb dL_happens_24 rfl (lv_at hl 1 rfl) ?_
  refine lv_iload_n hx hb dL_happens_25 rfl (lv_at hl 3 rfl) ?_
  refine x_V1 hx hb hml hown hE hS hl.1 cyX6_event tw586 hM ⟨Nat.le_refl _, Nat.le_refl _⟩ ⟨(Nat.zero_add mc).symm ▸ hmc.1, (Nat.zero_add ms).symm ▸ hmc.2⟩ (x_recv hK hH (id := [0]) hd0 (ci := 6) rfl (by decide) rfl) hH rfl rfl (Nat.le_of_ble_eq_true rfl) dL_happens_26 (fun H locs hP hS => ?_)
  refine lv_goto (tgt := 38) hx hb dL_happens_29 (by decide) ?_
  refine W.widen (k := mc') (n := ms') (by omega) (by omega) ?_
  exact x_iret hx hb hr hlocks hS dL_happens_38 rfl (hpp _ hP)

set_option maxHeartbeats 1000000 in
set_option maxRecDepth 100000 in
theorem w_happense_eIO (l : Launch) (g : xG) (dm : List Nat → Prop) (I : xI) (F : xF) (n fr lo : Nat) (y0 y1 y2 : Int32) (hd0 : dm [0]) (hT : xTc l yX6_event (xws yX6_event cX6_event 4 (some FieldType.int)) fr lo g [.ref (ga g [0]), .int y0, .int y1] (xR g dm I F n) eIO (xG_ g dm I F n) 1 6) : xMl l yL_happens cL_happens 6 (some FieldType.int) [(0, 38, 39, 19), (0, 38, 45, 21)] (fr + 1) (8 + (4 + 11) + lo) g [.ref (ga g [0]), .int y0, .int 101, .int y1, .int y2] (xR g dm I F n) (some (.int (-1001))) (xG_ g dm I F n) 1 6 := by
  refine xMl.of (by decide) (Nat.le_of_ble_eq_true rfl) ?_
  intro P_ e_ s m_ bl_ mt_ cd_ ls hx hb hr hown hlocks hml htab hE hK hts hH hS hl
  have hl : lv_has ls 6 [(0, .ref (ga g [0])), (1, .int y0), (2, .int 101), (3, .int y1), (4, .int y2)] := hl
  refine lv_iload_n hx hb dL_happens_0 rfl (lv_at hl 2 rfl) ?_
  refine lv_bipush (v := 100) hx hb dL_happens_1 (by decide) ?_
  refine lv_icmp_ne (tgt := 17) hx hb dL_happens_3 (by decide) (fun _ => ?_) (fun q_ => absurd q_ (by decide))
  refine lv_iload_n hx hb dL_happens_17 rfl (lv_at hl 2 rfl) ?_
  refine lv_bipush (v := 101) hx hb dL_happens_18 (by decide) ?_
  refine lv_icmp_ne (tgt := 32) hx hb dL_happens_20 (by decide) (fun q_ => absurd (by decide) q_) (fun _ => ?_)
  refine lv_aload_n hx hb dL_happens_23 rfl (lv_at hl 0 rfl) ?_
  refine lv_iload_n hx hb dL_happens_24 rfl (lv_at hl 1 rfl) ?_
  refine lv_iload_n hx hb dL_happens_25 rfl (lv_at hl 3 rfl) ?_
  refine x_contT (x_VT hx hb hml hown hE hS hl.1 cyX6_event tw586 hT ⟨Nat.le_refl _, Nat.le_refl _⟩ ⟨Nat.le_of_eq (Nat.zero_add _), Nat.le_of_eq (Nat.zero_add _)⟩ (x_recv hK hH (id := [0]) hd0 (ci := 6) rfl (by decide) rfl) hH rfl rfl (Nat.le_of_ble_eq_true rfl) dL_happens_26) hS (fun ce q9 H1 locs1 hp1 hS1 hce hcv hcl => ?_)
  refine x_catch hown hE htab [] ⟨0, 38, 39, 19⟩ [⟨0, 38, 45, 21⟩] rfl (fun z hz => absurd hz List.not_mem_nil) rfl (by decide) tw241 cfIO hce hcv hcl ?_
  refine lv_astore (lv' := [(5, .ref q9), (0, .ref (ga g [0])), (1, .int y0), (2, .int 101), (3, .int y1), (4, .int y2)]) hx hb dL_happens_39 hl (by decide) rfl (fun ls hl => ?_)
  refine lv_sipush (v := (-1001)) hx hb dL_happens_41 (by decide) ?_
  refine W.widen (k := 1) (n := 6) (by omega) (by omega) ?_
  exact x_iret hx hb hr hlocks hS1 dL_happens_44 rfl hp1

set_option maxHeartbeats 1000000 in
set_option maxRecDepth 100000 in
theorem w_happense_eIA (l : Launch) (g : xG) (dm : List Nat → Prop) (I : xI) (F : xF) (n fr lo : Nat) (y0 y1 y2 : Int32) (hd0 : dm [0]) (hT : xTc l yX6_event (xws yX6_event cX6_event 4 (some FieldType.int)) fr lo g [.ref (ga g [0]), .int y0, .int y1] (xR g dm I F n) eIA (xG_ g dm I F n) 1 6) : xMl l yL_happens cL_happens 6 (some FieldType.int) [(0, 38, 39, 19), (0, 38, 45, 21)] (fr + 1) (8 + (4 + 11) + lo) g [.ref (ga g [0]), .int y0, .int 101, .int y1, .int y2] (xR g dm I F n) (some (.int (-1002))) (xG_ g dm I F n) 1 6 := by
  refine xMl.of (by decide) (Nat.le_of_ble_eq_true rfl) ?_
  intro P_ e_ s m_ bl_ mt_ cd_ ls hx hb hr hown hlocks hml htab hE hK hts hH hS hl
  have hl : lv_has ls 6 [(0, .ref (ga g [0])), (1, .int y0), (2, .int 101), (3, .int y1), (4, .int y2)] := hl
  refine lv_iload_n hx hb dL_happens_0 rfl (lv_at hl 2 rfl) ?_
  refine lv_bipush (v := 100) hx hb dL_happens_1 (by decide) ?_
  refine lv_icmp_ne (tgt := 17) hx hb dL_happens_3 (by decide) (fun _ => ?_) (fun q_ => absurd q_ (by decide))
  refine lv_iload_n hx hb dL_happens_17 rfl (lv_at hl 2 rfl) ?_
  refine lv_bipush (v := 101) hx hb dL_happens_18 (by decide) ?_
  refine lv_icmp_ne (tgt := 32) hx hb dL_happens_20 (by decide) (fun q_ => absurd (by decide) q_) (fun _ => ?_)
  refine lv_aload_n hx hb dL_happens_23 rfl (lv_at hl 0 rfl) ?_
  refine lv_iload_n hx hb dL_happens_24 rfl (lv_at hl 1 rfl) ?_
  refine lv_iload_n hx hb dL_happens_25 rfl (lv_at hl 3 rfl) ?_
  refine x_contT (x_VT hx hb hml hown hE hS hl.1 cyX6_event tw586 hT ⟨Nat.le_refl _, Nat.le_refl _⟩ ⟨Nat.le_of_eq (Nat.zero_add _), Nat.le_of_eq (Nat.zero_add _)⟩ (x_recv hK hH (id := [0]) hd0 (ci := 6) rfl (by decide) rfl) hH rfl rfl (Nat.le_of_ble_eq_true rfl) dL_happens_26) hS (fun ce q9 H1 locs1 hp1 hS1 hce hcv hcl => ?_)
  refine x_catch hown hE htab [⟨0, 38, 39, 19⟩] ⟨0, 38, 45, 21⟩ [] rfl (fun z hz => by
        simp only [List.mem_cons, List.not_mem_nil, or_false] at hz
        rcases hz with rfl
        exact Or.inr ⟨by decide, _, tw241, hE.ls _ (List.mem_of_getElem? (i := 4) rfl)⟩) rfl (by decide) tw242 cfIA hce hcv hcl ?_
  refine lv_astore (lv' := [(5, .ref q9), (0, .ref (ga g [0])), (1, .int y0), (2, .int 101), (3, .int y1), (4, .int y2)]) hx hb dL_happens_45 hl (by decide) rfl (fun ls hl => ?_)
  refine lv_sipush (v := (-1002)) hx hb dL_happens_47 (by decide) ?_
  refine W.widen (k := 1) (n := 6) (by omega) (by omega) ?_
  exact x_iret hx hb hr hlocks hS1 dL_happens_50 rfl hp1

set_option maxHeartbeats 1000000 in
set_option maxRecDepth 100000 in
theorem w_happensm (l : Launch) (g : xG) (dm : List Nat → Prop) (I : xI) (F : xF) (n fr lo mc ms mc' ms' : Nat) (y0 y1 y2 : Int32) (v : Int32) (Post Post' : Heap → Prop) (hd0 : dm [0]) (hmc : mc ≤ mc' ∧ ms ≤ ms') (hpp : ∀ H, Post H → Post' H) (hM : xM l yX6_move (xws yX6_move cX6_move 6 (some FieldType.int)) fr lo g [.ref (ga g [0]), .int y0, .int y1] (xR g dm I F n) (some (.int v)) Post mc ms) : xMl l yL_happens cL_happens 6 (some FieldType.int) [(0, 38, 39, 19), (0, 38, 45, 21)] (fr + 1) (8 + (6 + 11) + lo) g [.ref (ga g [0]), .int y0, .int 109, .int y1, .int y2] (xR g dm I F n) (some (.int v)) Post' mc' ms' := by
  refine xMl.of (by decide) (Nat.le_of_ble_eq_true rfl) ?_
  intro P_ e_ s m_ bl_ mt_ cd_ ls hx hb hr hown hlocks hml htab hE hK hts hH hS hl
  have hl : lv_has ls 6 [(0, .ref (ga g [0])), (1, .int y0), (2, .int 109), (3, .int y1), (4, .int y2)] := hl
  refine lv_iload_n hx hb dL_happens_0 rfl (lv_at hl 2 rfl) ?_
  refine lv_bipush (v := 100) hx hb dL_happens_1 (by decide) ?_
  refine lv_icmp_ne (tgt := 17) hx hb dL_happens_3 (by decide) (fun _ => ?_) (fun q_ => absurd q_ (by decide))
  refine lv_iload_n hx hb dL_happens_17 rfl (lv_at hl 2 rfl) ?_
  refine lv_bipush (v := 101) hx hb dL_happens_18 (by decide) ?_
  refine lv_icmp_ne (tgt := 32) hx hb dL_happens_20 (by decide) (fun _ => ?_) (fun q_ => absurd q_ (by decide))
  refine lv_aload_n hx hb dL_happens_32 rfl (lv_at hl 0 rfl) ?_
  refine lv_iload_n hx hb dL_happens_33 rfl (lv_at hl 1 rfl) ?_
  refine lv_iload_n hx hb dL_happens_34 rfl (lv_at hl 3 rfl) ?_
  refine x_V1 hx hb hml hown hE hS hl.1 cyX6_move tw599 hM ⟨Nat.le_refl _, Nat.le_refl _⟩ ⟨(Nat.zero_add mc).symm ▸ hmc.1, (Nat.zero_add ms).symm ▸ hmc.2⟩ (x_recv hK hH (id := [0]) hd0 (ci := 6) rfl (by decide) rfl) hH rfl rfl (Nat.le_of_ble_eq_true rfl) dL_happens_35 (fun H locs hP hS => ?_)
  refine W.widen (k := mc') (n := ms') (by omega) (by omega) ?_
  exact x_iret hx hb hr hlocks hS dL_happens_38 rfl (hpp _ hP)

set_option maxHeartbeats 1000000 in
set_option maxRecDepth 100000 in
theorem w_happensm_eIO (l : Launch) (g : xG) (dm : List Nat → Prop) (I : xI) (F : xF) (n fr lo : Nat) (y0 y1 y2 : Int32) (hd0 : dm [0]) (hT : xTc l yX6_move (xws yX6_move cX6_move 6 (some FieldType.int)) fr lo g [.ref (ga g [0]), .int y0, .int y1] (xR g dm I F n) eIO (xG_ g dm I F n) 1 6) : xMl l yL_happens cL_happens 6 (some FieldType.int) [(0, 38, 39, 19), (0, 38, 45, 21)] (fr + 1) (8 + (6 + 11) + lo) g [.ref (ga g [0]), .int y0, .int 109, .int y1, .int y2] (xR g dm I F n) (some (.int (-1001))) (xG_ g dm I F n) 1 6 := by
  refine xMl.of (by decide) (Nat.le_of_ble_eq_true rfl) ?_
  intro P_ e_ s m_ bl_ mt_ cd_ ls hx hb hr hown hlocks hml htab hE hK hts hH hS hl
  have hl : lv_has ls 6 [(0, .ref (ga g [0])), (1, .int y0), (2, .int 109), (3, .int y1), (4, .int y2)] := hl
  refine lv_iload_n hx hb dL_happens_0 rfl (lv_at hl 2 rfl) ?_
  refine lv_bipush (v := 100) hx hb dL_happens_1 (by decide) ?_
  refine lv_icmp_ne (tgt := 17) hx hb dL_happens_3 (by decide) (fun _ => ?_) (fun q_ => absurd q_ (by decide))
  refine lv_iload_n hx hb dL_happens_17 rfl (lv_at hl 2 rfl) ?_
  refine lv_bipush (v := 101) hx hb dL_happens_18 (by decide) ?_
  refine lv_icmp_ne (tgt := 32) hx hb dL_happens_20 (by decide) (fun _ => ?_) (fun q_ => absurd q_ (by decide))
  refine lv_aload_n hx hb dL_happens_32 rfl (lv_at hl 0 rfl) ?_
  refine lv_iload_n hx hb dL_happens_33 rfl (lv_at hl 1 rfl) ?_
  refine lv_iload_n hx hb dL_happens_34 rfl (lv_at hl 3 rfl) ?_
  refine x_contT (x_VT hx hb hml hown hE hS hl.1 cyX6_move tw599 hT ⟨Nat.le_refl _, Nat.le_refl _⟩ ⟨Nat.le_of_eq (Nat.zero_add _), Nat.le_of_eq (Nat.zero_add _)⟩ (x_recv hK hH (id := [0]) hd0 (ci := 6) rfl (by decide) rfl) hH rfl rfl (Nat.le_of_ble_eq_true rfl) dL_happens_35) hS (fun ce q9 H1 locs1 hp1 hS1 hce hcv hcl => ?_)
  refine x_catch hown hE htab [] ⟨0, 38, 39, 19⟩ [⟨0, 38, 45, 21⟩] rfl (fun z hz => absurd hz List.not_mem_nil) rfl (by decide) tw241 cfIO hce hcv hcl ?_
  refine lv_astore (lv' := [(5, .ref q9), (0, .ref (ga g [0])), (1, .int y0), (2, .int 109), (3, .int y1), (4, .int y2)]) hx hb dL_happens_39 hl (by decide) rfl (fun ls hl => ?_)
  refine lv_sipush (v := (-1001)) hx hb dL_happens_41 (by decide) ?_
  refine W.widen (k := 1) (n := 6) (by omega) (by omega) ?_
  exact x_iret hx hb hr hlocks hS1 dL_happens_44 rfl hp1

set_option maxHeartbeats 1000000 in
set_option maxRecDepth 100000 in
theorem w_happensm_eIA (l : Launch) (g : xG) (dm : List Nat → Prop) (I : xI) (F : xF) (n fr lo : Nat) (y0 y1 y2 : Int32) (hd0 : dm [0]) (hT : xTc l yX6_move (xws yX6_move cX6_move 6 (some FieldType.int)) fr lo g [.ref (ga g [0]), .int y0, .int y1] (xR g dm I F n) eIA (xG_ g dm I F n) 1 6) : xMl l yL_happens cL_happens 6 (some FieldType.int) [(0, 38, 39, 19), (0, 38, 45, 21)] (fr + 1) (8 + (6 + 11) + lo) g [.ref (ga g [0]), .int y0, .int 109, .int y1, .int y2] (xR g dm I F n) (some (.int (-1002))) (xG_ g dm I F n) 1 6 := by
  refine xMl.of (by decide) (Nat.le_of_ble_eq_true rfl) ?_
  intro P_ e_ s m_ bl_ mt_ cd_ ls hx hb hr hown hlocks hml htab hE hK hts hH hS hl
  have hl : lv_has ls 6 [(0, .ref (ga g [0])), (1, .int y0), (2, .int 109), (3, .int y1), (4, .int y2)] := hl
  refine lv_iload_n hx hb dL_happens_0 rfl (lv_at hl 2 rfl) ?_
  refine lv_bipush (v := 100) hx hb dL_happens_1 (by decide) ?_
  refine lv_icmp_ne (tgt := 17) hx hb dL_happens_3 (by decide) (fun _ => ?_) (fun q_ => absurd q_ (by decide))
  refine lv_iload_n hx hb dL_happens_17 rfl (lv_at hl 2 rfl) ?_
  refine lv_bipush (v := 101) hx hb dL_happens_18 (by decide) ?_
  refine lv_icmp_ne (tgt := 32) hx hb dL_happens_20 (by decide) (fun _ => ?_) (fun q_ => absurd q_ (by decide))
  refine lv_aload_n hx hb dL_happens_32 rfl (lv_at hl 0 rfl) ?_
  refine lv_iload_n hx hb dL_happens_33 rfl (lv_at hl 1 rfl) ?_
  refine lv_iload_n hx hb dL_happens_34 rfl (lv_at hl 3 rfl) ?_
  refine x_contT (x_VT hx hb hml hown hE hS hl.1 cyX6_move tw599 hT ⟨Nat.le_refl _, Nat.le_refl _⟩ ⟨Nat.le_of_eq (Nat.zero_add _), Nat.le_of_eq (Nat.zero_add _)⟩ (x_recv hK hH (id := [0]) hd0 (ci := 6) rfl (by decide) rfl) hH rfl rfl (Nat.le_of_ble_eq_true rfl) dL_happens_35) hS (fun ce q9 H1 locs1 hp1 hS1 hce hcv hcl => ?_)
  refine x_catch hown hE htab [⟨0, 38, 39, 19⟩] ⟨0, 38, 45, 21⟩ [] rfl (fun z hz => by
        simp only [List.mem_cons, List.not_mem_nil, or_false] at hz
        rcases hz with rfl
        exact Or.inr ⟨by decide, _, tw241, hE.ls _ (List.mem_of_getElem? (i := 4) rfl)⟩) rfl (by decide) tw242 cfIA hce hcv hcl ?_
  refine lv_astore (lv' := [(5, .ref q9), (0, .ref (ga g [0])), (1, .int y0), (2, .int 109), (3, .int y1), (4, .int y2)]) hx hb dL_happens_45 hl (by decide) rfl (fun ls hl => ?_)
  refine lv_sipush (v := (-1002)) hx hb dL_happens_47 (by decide) ?_
  refine W.widen (k := 1) (n := 6) (by omega) (by omega) ?_
  exact x_iret hx hb hr hlocks hS1 dL_happens_50 rfl hp1

set_option maxHeartbeats 1000000 in
set_option maxRecDepth 100000 in
theorem w_complete (l : Launch) (g : xG) (dm : List Nat → Prop) (I : xI) (F : xF) (n fr lo mc ms mc' ms' : Nat) (y0 y1 : Int32) (v : Int32) (Post Post' : Heap → Prop) (hd0 : dm [0]) (hmc : mc ≤ mc' ∧ ms ≤ ms') (hpp : ∀ H, Post H → Post' H) (hM : xM l yX6_complete (xws yX6_complete cX6_complete 4 (some FieldType.int)) fr lo g [.ref (ga g [0]), .int y0, .int y1] (xR g dm I F n) (some (.int v)) Post mc ms) : xMl l yL_complete cL_complete 4 (some FieldType.int) [(0, 6, 7, 19), (0, 6, 12, 30), (0, 6, 17, 13)] (fr + 1) (8 + (4 + 11) + lo) g [.ref (ga g [0]), .int y0, .int y1] (xR g dm I F n) (some (.int v)) Post' mc' ms' := by
  refine xMl.of (by decide) (Nat.le_of_ble_eq_true rfl) ?_
  intro P_ e_ s m_ bl_ mt_ cd_ ls hx hb hr hown hlocks hml htab hE hK hts hH hS hl
  have hl : lv_has ls 4 [(0, .ref (ga g [0])), (1, .int y0), (2, .int y1)] := hl
  refine lv_aload_n hx hb dL_complete_0 rfl (lv_at hl 0 rfl) ?_
  refine lv_iload_n hx hb dL_complete_1 rfl (lv_at hl 1 rfl) ?_
  refine lv_iload_n hx hb dL_complete_2 rfl (lv_at hl 2 rfl) ?_
  refine x_V1 hx hb hml hown hE hS hl.1 cyX6_complete tw607 hM ⟨Nat.le_refl _, Nat.le_refl _⟩ ⟨(Nat.zero_add mc).symm ▸ hmc.1, (Nat.zero_add ms).symm ▸ hmc.2⟩ (x_recv hK hH (id := [0]) hd0 (ci := 6) rfl (by decide) rfl) hH rfl rfl (Nat.le_of_ble_eq_true rfl) dL_complete_3 (fun H locs hP hS => ?_)
  refine W.widen (k := mc') (n := ms') (by omega) (by omega) ?_
  exact x_iret hx hb hr hlocks hS dL_complete_6 rfl (hpp _ hP)

set_option maxHeartbeats 1000000 in
set_option maxRecDepth 100000 in
theorem w_complete_eIO (l : Launch) (g : xG) (dm : List Nat → Prop) (I : xI) (F : xF) (n fr lo : Nat) (y0 y1 : Int32) (hd0 : dm [0]) (hT : xTc l yX6_complete (xws yX6_complete cX6_complete 4 (some FieldType.int)) fr lo g [.ref (ga g [0]), .int y0, .int y1] (xR g dm I F n) eIO (xG_ g dm I F n) 1 6) : xMl l yL_complete cL_complete 4 (some FieldType.int) [(0, 6, 7, 19), (0, 6, 12, 30), (0, 6, 17, 13)] (fr + 1) (8 + (4 + 11) + lo) g [.ref (ga g [0]), .int y0, .int y1] (xR g dm I F n) (some (.int (-1001))) (xG_ g dm I F n) 1 6 := by
  refine xMl.of (by decide) (Nat.le_of_ble_eq_true rfl) ?_
  intro P_ e_ s m_ bl_ mt_ cd_ ls hx hb hr hown hlocks hml htab hE hK hts hH hS hl
  have hl : lv_has ls 4 [(0, .ref (ga g [0])), (1, .int y0), (2, .int y1)] := hl
  refine lv_aload_n hx hb dL_complete_0 rfl (lv_at hl 0 rfl) ?_
  refine lv_iload_n hx hb dL_complete_1 rfl (lv_at hl 1 rfl) ?_
  refine lv_iload_n hx hb dL_complete_2 rfl (lv_at hl 2 rfl) ?_
  refine x_contT (x_VT hx hb hml hown hE hS hl.1 cyX6_complete tw607 hT ⟨Nat.le_refl _, Nat.le_refl _⟩ ⟨Nat.le_of_eq (Nat.zero_add _), Nat.le_of_eq (Nat.zero_add _)⟩ (x_recv hK hH (id := [0]) hd0 (ci := 6) rfl (by decide) rfl) hH rfl rfl (Nat.le_of_ble_eq_true rfl) dL_complete_3) hS (fun ce q9 H1 locs1 hp1 hS1 hce hcv hcl => ?_)
  refine x_catch hown hE htab [] ⟨0, 6, 7, 19⟩ [⟨0, 6, 12, 30⟩, ⟨0, 6, 17, 13⟩] rfl (fun z hz => absurd hz List.not_mem_nil) rfl (by decide) tw241 cfIO hce hcv hcl ?_
  refine lv_astore_n (lv' := [(3, .ref q9), (0, .ref (ga g [0])), (1, .int y0), (2, .int y1)]) hx hb dL_complete_7 rfl hl (by decide) rfl (fun ls hl => ?_)
  refine lv_sipush (v := (-1001)) hx hb dL_complete_8 (by decide) ?_
  refine W.widen (k := 1) (n := 6) (by omega) (by omega) ?_
  exact x_iret hx hb hr hlocks hS1 dL_complete_11 rfl hp1

set_option maxHeartbeats 1000000 in
set_option maxRecDepth 100000 in
theorem w_complete_eUO (l : Launch) (g : xG) (dm : List Nat → Prop) (I : xI) (F : xF) (n fr lo : Nat) (y0 y1 : Int32) (hd0 : dm [0]) (hT : xTc l yX6_complete (xws yX6_complete cX6_complete 4 (some FieldType.int)) fr lo g [.ref (ga g [0]), .int y0, .int y1] (xR g dm I F n) eUO (xG_ g dm I F n) 1 6) : xMl l yL_complete cL_complete 4 (some FieldType.int) [(0, 6, 7, 19), (0, 6, 12, 30), (0, 6, 17, 13)] (fr + 1) (8 + (4 + 11) + lo) g [.ref (ga g [0]), .int y0, .int y1] (xR g dm I F n) (some (.int (-1002))) (xG_ g dm I F n) 1 6 := by
  refine xMl.of (by decide) (Nat.le_of_ble_eq_true rfl) ?_
  intro P_ e_ s m_ bl_ mt_ cd_ ls hx hb hr hown hlocks hml htab hE hK hts hH hS hl
  have hl : lv_has ls 4 [(0, .ref (ga g [0])), (1, .int y0), (2, .int y1)] := hl
  refine lv_aload_n hx hb dL_complete_0 rfl (lv_at hl 0 rfl) ?_
  refine lv_iload_n hx hb dL_complete_1 rfl (lv_at hl 1 rfl) ?_
  refine lv_iload_n hx hb dL_complete_2 rfl (lv_at hl 2 rfl) ?_
  refine x_contT (x_VT hx hb hml hown hE hS hl.1 cyX6_complete tw607 hT ⟨Nat.le_refl _, Nat.le_refl _⟩ ⟨Nat.le_of_eq (Nat.zero_add _), Nat.le_of_eq (Nat.zero_add _)⟩ (x_recv hK hH (id := [0]) hd0 (ci := 6) rfl (by decide) rfl) hH rfl rfl (Nat.le_of_ble_eq_true rfl) dL_complete_3) hS (fun ce q9 H1 locs1 hp1 hS1 hce hcv hcl => ?_)
  refine x_catch hown hE htab [⟨0, 6, 7, 19⟩] ⟨0, 6, 12, 30⟩ [⟨0, 6, 17, 13⟩] rfl (fun z hz => by
        simp only [List.mem_cons, List.not_mem_nil, or_false] at hz
        rcases hz with rfl
        exact Or.inr ⟨by decide, _, tw241, hE.ls _ (List.mem_of_getElem? (i := 5) rfl)⟩) rfl (by decide) tw367 cfUO hce hcv hcl ?_
  refine lv_astore_n (lv' := [(3, .ref q9), (0, .ref (ga g [0])), (1, .int y0), (2, .int y1)]) hx hb dL_complete_12 rfl hl (by decide) rfl (fun ls hl => ?_)
  refine lv_sipush (v := (-1002)) hx hb dL_complete_13 (by decide) ?_
  refine W.widen (k := 1) (n := 6) (by omega) (by omega) ?_
  exact x_iret hx hb hr hlocks hS1 dL_complete_16 rfl hp1

set_option maxHeartbeats 1000000 in
set_option maxRecDepth 100000 in
theorem w_complete_eIS (l : Launch) (g : xG) (dm : List Nat → Prop) (I : xI) (F : xF) (n fr lo : Nat) (y0 y1 : Int32) (hd0 : dm [0]) (hT : xTc l yX6_complete (xws yX6_complete cX6_complete 4 (some FieldType.int)) fr lo g [.ref (ga g [0]), .int y0, .int y1] (xR g dm I F n) eIS (xG_ g dm I F n) 1 6) : xMl l yL_complete cL_complete 4 (some FieldType.int) [(0, 6, 7, 19), (0, 6, 12, 30), (0, 6, 17, 13)] (fr + 1) (8 + (4 + 11) + lo) g [.ref (ga g [0]), .int y0, .int y1] (xR g dm I F n) (some (.int (-1003))) (xG_ g dm I F n) 1 6 := by
  refine xMl.of (by decide) (Nat.le_of_ble_eq_true rfl) ?_
  intro P_ e_ s m_ bl_ mt_ cd_ ls hx hb hr hown hlocks hml htab hE hK hts hH hS hl
  have hl : lv_has ls 4 [(0, .ref (ga g [0])), (1, .int y0), (2, .int y1)] := hl
  refine lv_aload_n hx hb dL_complete_0 rfl (lv_at hl 0 rfl) ?_
  refine lv_iload_n hx hb dL_complete_1 rfl (lv_at hl 1 rfl) ?_
  refine lv_iload_n hx hb dL_complete_2 rfl (lv_at hl 2 rfl) ?_
  refine x_contT (x_VT hx hb hml hown hE hS hl.1 cyX6_complete tw607 hT ⟨Nat.le_refl _, Nat.le_refl _⟩ ⟨Nat.le_of_eq (Nat.zero_add _), Nat.le_of_eq (Nat.zero_add _)⟩ (x_recv hK hH (id := [0]) hd0 (ci := 6) rfl (by decide) rfl) hH rfl rfl (Nat.le_of_ble_eq_true rfl) dL_complete_3) hS (fun ce q9 H1 locs1 hp1 hS1 hce hcv hcl => ?_)
  refine x_catch hown hE htab [⟨0, 6, 7, 19⟩, ⟨0, 6, 12, 30⟩] ⟨0, 6, 17, 13⟩ [] rfl (fun z hz => by
        simp only [List.mem_cons, List.not_mem_nil, or_false] at hz
        rcases hz with rfl | rfl
        · exact Or.inr ⟨by decide, _, tw241, hE.ls _ (List.mem_of_getElem? (i := 3) rfl)⟩
        · exact Or.inr ⟨by decide, _, tw367, hE.ls _ (List.mem_of_getElem? (i := 9) rfl)⟩) rfl (by decide) tw163 cfIS hce hcv hcl ?_
  refine lv_astore_n (lv' := [(3, .ref q9), (0, .ref (ga g [0])), (1, .int y0), (2, .int y1)]) hx hb dL_complete_17 rfl hl (by decide) rfl (fun ls hl => ?_)
  refine lv_sipush (v := (-1003)) hx hb dL_complete_18 (by decide) ?_
  refine W.widen (k := 1) (n := 6) (by omega) (by omega) ?_
  exact x_iret hx hb hr hlocks hS1 dL_complete_21 rfl hp1

set_option maxHeartbeats 1000000 in
set_option maxRecDepth 100000 in
theorem w_waiting (l : Launch) (g : xG) (dm : List Nat → Prop) (I : xI) (F : xF) (n fr lo mc ms mc' ms' : Nat) (y0 y1 : Int32) (v : Int32) (Post Post' : Heap → Prop) (hv : sBo v) (hd0 : dm [0]) (hmc : mc ≤ mc' ∧ ms ≤ ms') (hpp : ∀ H, Post H → Post' H) (hM : xM l yX6_setWaiting (xws yX6_setWaiting cX6_setWaiting 5 (some FieldType.boolean)) fr lo g [.ref (ga g [0]), .int y0, .int y1] (xR g dm I F n) (some (.int v)) Post mc ms) : xMl l yL_waiting cL_waiting 4 (some FieldType.int) [(0, 14, 15, 19)] (fr + 1) (8 + (5 + 11) + lo) g [.ref (ga g [0]), .int y0, .int y1] (xR g dm I F n) (some (.int v)) Post' mc' ms' := by
  refine xMl.of (by decide) (Nat.le_of_ble_eq_true rfl) ?_
  intro P_ e_ s m_ bl_ mt_ cd_ ls hx hb hr hown hlocks hml htab hE hK hts hH hS hl
  have hl : lv_has ls 4 [(0, .ref (ga g [0])), (1, .int y0), (2, .int y1)] := hl
  refine lv_aload_n hx hb dL_waiting_0 rfl (lv_at hl 0 rfl) ?_
  refine lv_iload_n hx hb dL_waiting_1 rfl (lv_at hl 1 rfl) ?_
  refine lv_iload_n hx hb dL_waiting_2 rfl (lv_at hl 2 rfl) ?_
  refine x_V1 hx hb hml hown hE hS hl.1 cyX6_setWaiting tw616 hM ⟨Nat.le_refl _, Nat.le_refl _⟩ ⟨(Nat.zero_add mc).symm ▸ hmc.1, (Nat.zero_add ms).symm ▸ hmc.2⟩ (x_recv hK hH (id := [0]) hd0 (ci := 6) rfl (by decide) rfl) hH rfl rfl (Nat.le_of_ble_eq_true rfl) dL_waiting_3 (fun H locs hP hS => ?_)
  rcases hv with hv | hv
  · refine lv_if_eq (tgt := 13) hx hb dL_waiting_6 (by decide) (fun _ => ?_) (fun q_ => absurd hv q_)
    refine lv_iconst (v := 0) hx hb dL_waiting_13 (by decide) ?_
    refine W.widen (k := mc') (n := ms') (by omega) (by omega) ?_
    exact x_iret hx hb hr hlocks hS dL_waiting_14 hv.symm (hpp _ hP)
  · refine lv_if_eq (tgt := 13) hx hb dL_waiting_6 (by decide) (fun q_ => absurd q_ (by rw [hv]; decide)) (fun _ => ?_)
    refine lv_iconst (v := 1) hx hb dL_waiting_9 (by decide) ?_
    refine lv_goto (tgt := 14) hx hb dL_waiting_10 (by decide) ?_
    refine W.widen (k := mc') (n := ms') (by omega) (by omega) ?_
    exact x_iret hx hb hr hlocks hS dL_waiting_14 hv.symm (hpp _ hP)

set_option maxHeartbeats 1000000 in
set_option maxRecDepth 100000 in
theorem w_waiting_eIO (l : Launch) (g : xG) (dm : List Nat → Prop) (I : xI) (F : xF) (n fr lo : Nat) (y0 y1 : Int32) (hd0 : dm [0]) (hT : xTc l yX6_setWaiting (xws yX6_setWaiting cX6_setWaiting 5 (some FieldType.boolean)) fr lo g [.ref (ga g [0]), .int y0, .int y1] (xR g dm I F n) eIO (xG_ g dm I F n) 1 6) : xMl l yL_waiting cL_waiting 4 (some FieldType.int) [(0, 14, 15, 19)] (fr + 1) (8 + (5 + 11) + lo) g [.ref (ga g [0]), .int y0, .int y1] (xR g dm I F n) (some (.int (-1001))) (xG_ g dm I F n) 1 6 := by
  refine xMl.of (by decide) (Nat.le_of_ble_eq_true rfl) ?_
  intro P_ e_ s m_ bl_ mt_ cd_ ls hx hb hr hown hlocks hml htab hE hK hts hH hS hl
  have hl : lv_has ls 4 [(0, .ref (ga g [0])), (1, .int y0), (2, .int y1)] := hl
  refine lv_aload_n hx hb dL_waiting_0 rfl (lv_at hl 0 rfl) ?_
  refine lv_iload_n hx hb dL_waiting_1 rfl (lv_at hl 1 rfl) ?_
  refine lv_iload_n hx hb dL_waiting_2 rfl (lv_at hl 2 rfl) ?_
  refine x_contT (x_VT hx hb hml hown hE hS hl.1 cyX6_setWaiting tw616 hT ⟨Nat.le_refl _, Nat.le_refl _⟩ ⟨Nat.le_of_eq (Nat.zero_add _), Nat.le_of_eq (Nat.zero_add _)⟩ (x_recv hK hH (id := [0]) hd0 (ci := 6) rfl (by decide) rfl) hH rfl rfl (Nat.le_of_ble_eq_true rfl) dL_waiting_3) hS (fun ce q9 H1 locs1 hp1 hS1 hce hcv hcl => ?_)
  refine x_catch hown hE htab [] ⟨0, 14, 15, 19⟩ [] rfl (fun z hz => absurd hz List.not_mem_nil) rfl (by decide) tw241 cfIO hce hcv hcl ?_
  refine lv_astore_n (lv' := [(3, .ref q9), (0, .ref (ga g [0])), (1, .int y0), (2, .int y1)]) hx hb dL_waiting_15 rfl hl (by decide) rfl (fun ls hl => ?_)
  refine lv_sipush (v := (-1001)) hx hb dL_waiting_16 (by decide) ?_
  refine W.widen (k := 1) (n := 6) (by omega) (by omega) ?_
  exact x_iret hx hb hr hlocks hS1 dL_waiting_19 rfl hp1

set_option maxHeartbeats 1000000 in
set_option maxRecDepth 100000 in
theorem w_pass (l : Launch) (g : xG) (dm : List Nat → Prop) (I : xI) (F : xF) (n fr lo mc ms mc' ms' : Nat) (y0 : Int32) (v : Int32) (Post Post' : Heap → Prop) (hd0 : dm [0]) (hmc : mc ≤ mc' ∧ ms ≤ ms') (hpp : ∀ H, Post H → Post' H) (hM : xM l yX6_pass (xws yX6_pass cX6_pass 4 (some FieldType.int)) fr lo g [.ref (ga g [0]), .int y0] (xR g dm I F n) (some (.int v)) Post mc ms) : xMl l yL_pass cL_pass 3 (some FieldType.int) [(0, 5, 6, 21)] (fr + 1) (8 + (4 + 11) + lo) g [.ref (ga g [0]), .int y0] (xR g dm I F n) (some (.int v)) Post' mc' ms' := by
  refine xMl.of (by decide) (Nat.le_of_ble_eq_true rfl) ?_
  intro P_ e_ s m_ bl_ mt_ cd_ ls hx hb hr hown hlocks hml htab hE hK hts hH hS hl
  have hl : lv_has ls 3 [(0, .ref (ga g [0])), (1, .int y0)] := hl
  refine lv_aload_n hx hb dL_pass_0 rfl (lv_at hl 0 rfl) ?_
  refine lv_iload_n hx hb dL_pass_1 rfl (lv_at hl 1 rfl) ?_
  refine x_V1 hx hb hml hown hE hS hl.1 cyX6_pass tw623 hM ⟨Nat.le_refl _, Nat.le_refl _⟩ ⟨(Nat.zero_add mc).symm ▸ hmc.1, (Nat.zero_add ms).symm ▸ hmc.2⟩ (x_recv hK hH (id := [0]) hd0 (ci := 6) rfl (by decide) rfl) hH rfl rfl (Nat.le_of_ble_eq_true rfl) dL_pass_2 (fun H locs hP hS => ?_)
  refine W.widen (k := mc') (n := ms') (by omega) (by omega) ?_
  exact x_iret hx hb hr hlocks hS dL_pass_5 rfl (hpp _ hP)

set_option maxHeartbeats 1000000 in
set_option maxRecDepth 100000 in
theorem w_pass_eIA (l : Launch) (g : xG) (dm : List Nat → Prop) (I : xI) (F : xF) (n fr lo : Nat) (y0 : Int32) (hd0 : dm [0]) (hT : xTc l yX6_pass (xws yX6_pass cX6_pass 4 (some FieldType.int)) fr lo g [.ref (ga g [0]), .int y0] (xR g dm I F n) eIA (xG_ g dm I F n) 1 6) : xMl l yL_pass cL_pass 3 (some FieldType.int) [(0, 5, 6, 21)] (fr + 1) (8 + (4 + 11) + lo) g [.ref (ga g [0]), .int y0] (xR g dm I F n) (some (.int (-1001))) (xG_ g dm I F n) 1 6 := by
  refine xMl.of (by decide) (Nat.le_of_ble_eq_true rfl) ?_
  intro P_ e_ s m_ bl_ mt_ cd_ ls hx hb hr hown hlocks hml htab hE hK hts hH hS hl
  have hl : lv_has ls 3 [(0, .ref (ga g [0])), (1, .int y0)] := hl
  refine lv_aload_n hx hb dL_pass_0 rfl (lv_at hl 0 rfl) ?_
  refine lv_iload_n hx hb dL_pass_1 rfl (lv_at hl 1 rfl) ?_
  refine x_contT (x_VT hx hb hml hown hE hS hl.1 cyX6_pass tw623 hT ⟨Nat.le_refl _, Nat.le_refl _⟩ ⟨Nat.le_of_eq (Nat.zero_add _), Nat.le_of_eq (Nat.zero_add _)⟩ (x_recv hK hH (id := [0]) hd0 (ci := 6) rfl (by decide) rfl) hH rfl rfl (Nat.le_of_ble_eq_true rfl) dL_pass_2) hS (fun ce q9 H1 locs1 hp1 hS1 hce hcv hcl => ?_)
  refine x_catch hown hE htab [] ⟨0, 5, 6, 21⟩ [] rfl (fun z hz => absurd hz List.not_mem_nil) rfl (by decide) tw242 cfIA hce hcv hcl ?_
  refine lv_astore_n (lv' := [(2, .ref q9), (0, .ref (ga g [0])), (1, .int y0)]) hx hb dL_pass_6 rfl hl (by decide) rfl (fun ls hl => ?_)
  refine lv_sipush (v := (-1001)) hx hb dL_pass_7 (by decide) ?_
  refine W.widen (k := 1) (n := 6) (by omega) (by omega) ?_
  exact x_iret hx hb hr hlocks hS1 dL_pass_10 rfl hp1

set_option maxHeartbeats 1000000 in
set_option maxRecDepth 100000 in
theorem w_at0 (l : Launch) (g : xG) (dm : List Nat → Prop) (I : xI) (F : xF) (n fr lo mc ms mc' ms' : Nat) (y0 y1 : Int32) (v : Int32) (Post Post' : Heap → Prop) (hd0 : dm [0]) (hmc : mc ≤ mc' ∧ ms ≤ ms') (hpp : ∀ H, Post H → Post' H) (hM : xM l yX6_state (xws yX6_state cX6_state 3 (some FieldType.char)) fr lo g [.ref (ga g [0]), .int y0, .int y1] (xR g dm I F n) (some (.int v)) Post mc ms) : xMl l yL_at cL_at 5 (some FieldType.int) [(0, 83, 84, 19)] (fr + 1) (8 + (3 + 11) + lo) g [.ref (ga g [0]), .int y0, .int y1, .int 0] (xR g dm I F n) (some (.int v)) Post' mc' ms' := by
  refine xMl.of (by decide) (Nat.le_of_ble_eq_true rfl) ?_
  intro P_ e_ s m_ bl_ mt_ cd_ ls hx hb hr hown hlocks hml htab hE hK hts hH hS hl
  have hl : lv_has ls 5 [(0, .ref (ga g [0])), (1, .int y0), (2, .int y1), (3, .int 0)] := hl
  refine lv_iload_n hx hb dL_at_0 rfl (lv_at hl 3 rfl) ?_
  refine lv_if_ne (tgt := 13) hx hb dL_at_1 (by decide) (fun q_ => absurd (by decide) q_) (fun _ => ?_)
  refine lv_aload_n hx hb dL_at_4 rfl (lv_at hl 0 rfl) ?_
  refine lv_iload_n hx hb dL_at_5 rfl (lv_at hl 1 rfl) ?_
  refine lv_iload_n hx hb dL_at_6 rfl (lv_at hl 2 rfl) ?_
  refine x_V1 hx hb hml hown hE hS hl.1 cyX6_state tw647 hM ⟨Nat.le_refl _, Nat.le_refl _⟩ ⟨(Nat.zero_add mc).symm ▸ hmc.1, (Nat.zero_add ms).symm ▸ hmc.2⟩ (x_recv hK hH (id := [0]) hd0 (ci := 6) rfl (by decide) rfl) hH rfl rfl (Nat.le_of_ble_eq_true rfl) dL_at_7 (fun H locs hP hS => ?_)
  refine lv_goto (tgt := 83) hx hb dL_at_10 (by decide) ?_
  refine W.widen (k := mc') (n := ms') (by omega) (by omega) ?_
  exact x_iret hx hb hr hlocks hS dL_at_83 rfl (hpp _ hP)

set_option maxHeartbeats 1000000 in
set_option maxRecDepth 100000 in
theorem w_at0_eIO (l : Launch) (g : xG) (dm : List Nat → Prop) (I : xI) (F : xF) (n fr lo : Nat) (y0 y1 : Int32) (hd0 : dm [0]) (hT : xTc l yX6_state (xws yX6_state cX6_state 3 (some FieldType.char)) fr lo g [.ref (ga g [0]), .int y0, .int y1] (xR g dm I F n) eIO (xG_ g dm I F n) 1 6) : xMl l yL_at cL_at 5 (some FieldType.int) [(0, 83, 84, 19)] (fr + 1) (8 + (3 + 11) + lo) g [.ref (ga g [0]), .int y0, .int y1, .int 0] (xR g dm I F n) (some (.int (-1001))) (xG_ g dm I F n) 1 6 := by
  refine xMl.of (by decide) (Nat.le_of_ble_eq_true rfl) ?_
  intro P_ e_ s m_ bl_ mt_ cd_ ls hx hb hr hown hlocks hml htab hE hK hts hH hS hl
  have hl : lv_has ls 5 [(0, .ref (ga g [0])), (1, .int y0), (2, .int y1), (3, .int 0)] := hl
  refine lv_iload_n hx hb dL_at_0 rfl (lv_at hl 3 rfl) ?_
  refine lv_if_ne (tgt := 13) hx hb dL_at_1 (by decide) (fun q_ => absurd (by decide) q_) (fun _ => ?_)
  refine lv_aload_n hx hb dL_at_4 rfl (lv_at hl 0 rfl) ?_
  refine lv_iload_n hx hb dL_at_5 rfl (lv_at hl 1 rfl) ?_
  refine lv_iload_n hx hb dL_at_6 rfl (lv_at hl 2 rfl) ?_
  refine x_contT (x_VT hx hb hml hown hE hS hl.1 cyX6_state tw647 hT ⟨Nat.le_refl _, Nat.le_refl _⟩ ⟨Nat.le_of_eq (Nat.zero_add _), Nat.le_of_eq (Nat.zero_add _)⟩ (x_recv hK hH (id := [0]) hd0 (ci := 6) rfl (by decide) rfl) hH rfl rfl (Nat.le_of_ble_eq_true rfl) dL_at_7) hS (fun ce q9 H1 locs1 hp1 hS1 hce hcv hcl => ?_)
  refine x_catch hown hE htab [] ⟨0, 83, 84, 19⟩ [] rfl (fun z hz => absurd hz List.not_mem_nil) rfl (by decide) tw241 cfIO hce hcv hcl ?_
  refine lv_astore (lv' := [(4, .ref q9), (0, .ref (ga g [0])), (1, .int y0), (2, .int y1), (3, .int 0)]) hx hb dL_at_84 hl (by decide) rfl (fun ls hl => ?_)
  refine lv_sipush (v := (-1001)) hx hb dL_at_86 (by decide) ?_
  refine W.widen (k := 1) (n := 6) (by omega) (by omega) ?_
  exact x_iret hx hb hr hlocks hS1 dL_at_89 rfl hp1

set_option maxHeartbeats 1000000 in
set_option maxRecDepth 100000 in
theorem w_at1 (l : Launch) (g : xG) (dm : List Nat → Prop) (I : xI) (F : xF) (n fr lo mc ms mc' ms' : Nat) (y0 y1 : Int32) (v : Int32) (Post Post' : Heap → Prop) (hd0 : dm [0]) (hmc : mc ≤ mc' ∧ ms ≤ ms') (hpp : ∀ H, Post H → Post' H) (hM : xM l yX6_stateByReplay (xws yX6_stateByReplay cX6_stateByReplay 3 (some FieldType.char)) fr lo g [.ref (ga g [0]), .int y0, .int y1] (xR g dm I F n) (some (.int v)) Post mc ms) : xMl l yL_at cL_at 5 (some FieldType.int) [(0, 83, 84, 19)] (fr + 1) (8 + (3 + 11) + lo) g [.ref (ga g [0]), .int y0, .int y1, .int 1] (xR g dm I F n) (some (.int v)) Post' mc' ms' := by
  refine xMl.of (by decide) (Nat.le_of_ble_eq_true rfl) ?_
  intro P_ e_ s m_ bl_ mt_ cd_ ls hx hb hr hown hlocks hml htab hE hK hts hH hS hl
  have hl : lv_has ls 5 [(0, .ref (ga g [0])), (1, .int y0), (2, .int y1), (3, .int 1)] := hl
  refine lv_iload_n hx hb dL_at_0 rfl (lv_at hl 3 rfl) ?_
  refine lv_if_ne (tgt := 13) hx hb dL_at_1 (by decide) (fun _ => ?_) (fun q_ => absurd q_ (by decide))
  refine lv_iload_n hx hb dL_at_13 rfl (lv_at hl 3 rfl) ?_
  refine lv_iconst (v := 1) hx hb dL_at_14 (by decide) ?_
  refine lv_icmp_ne (tgt := 27) hx hb dL_at_15 (by decide) (fun q_ => absurd (by decide) q_) (fun _ => ?_)
  refine lv_aload_n hx hb dL_at_18 rfl (lv_at hl 0 rfl) ?_
  refine lv_iload_n hx hb dL_at_19 rfl (lv_at hl 1 rfl) ?_
  refine lv_iload_n hx hb dL_at_20 rfl (lv_at hl 2 rfl) ?_
  refine x_V1 hx hb hml hown hE hS hl.1 cyX6_stateByReplay tw655 hM ⟨Nat.le_refl _, Nat.le_refl _⟩ ⟨(Nat.zero_add mc).symm ▸ hmc.1, (Nat.zero_add ms).symm ▸ hmc.2⟩ (x_recv hK hH (id := [0]) hd0 (ci := 6) rfl (by decide) rfl) hH rfl rfl (Nat.le_of_ble_eq_true rfl) dL_at_21 (fun H locs hP hS => ?_)
  refine lv_goto (tgt := 83) hx hb dL_at_24 (by decide) ?_
  refine W.widen (k := mc') (n := ms') (by omega) (by omega) ?_
  exact x_iret hx hb hr hlocks hS dL_at_83 rfl (hpp _ hP)

set_option maxHeartbeats 1000000 in
set_option maxRecDepth 100000 in
theorem w_at1_eIO (l : Launch) (g : xG) (dm : List Nat → Prop) (I : xI) (F : xF) (n fr lo : Nat) (y0 y1 : Int32) (hd0 : dm [0]) (hT : xTc l yX6_stateByReplay (xws yX6_stateByReplay cX6_stateByReplay 3 (some FieldType.char)) fr lo g [.ref (ga g [0]), .int y0, .int y1] (xR g dm I F n) eIO (xG_ g dm I F n) 1 6) : xMl l yL_at cL_at 5 (some FieldType.int) [(0, 83, 84, 19)] (fr + 1) (8 + (3 + 11) + lo) g [.ref (ga g [0]), .int y0, .int y1, .int 1] (xR g dm I F n) (some (.int (-1001))) (xG_ g dm I F n) 1 6 := by
  refine xMl.of (by decide) (Nat.le_of_ble_eq_true rfl) ?_
  intro P_ e_ s m_ bl_ mt_ cd_ ls hx hb hr hown hlocks hml htab hE hK hts hH hS hl
  have hl : lv_has ls 5 [(0, .ref (ga g [0])), (1, .int y0), (2, .int y1), (3, .int 1)] := hl
  refine lv_iload_n hx hb dL_at_0 rfl (lv_at hl 3 rfl) ?_
  refine lv_if_ne (tgt := 13) hx hb dL_at_1 (by decide) (fun _ => ?_) (fun q_ => absurd q_ (by decide))
  refine lv_iload_n hx hb dL_at_13 rfl (lv_at hl 3 rfl) ?_
  refine lv_iconst (v := 1) hx hb dL_at_14 (by decide) ?_
  refine lv_icmp_ne (tgt := 27) hx hb dL_at_15 (by decide) (fun q_ => absurd (by decide) q_) (fun _ => ?_)
  refine lv_aload_n hx hb dL_at_18 rfl (lv_at hl 0 rfl) ?_
  refine lv_iload_n hx hb dL_at_19 rfl (lv_at hl 1 rfl) ?_
  refine lv_iload_n hx hb dL_at_20 rfl (lv_at hl 2 rfl) ?_
  refine x_contT (x_VT hx hb hml hown hE hS hl.1 cyX6_stateByReplay tw655 hT ⟨Nat.le_refl _, Nat.le_refl _⟩ ⟨Nat.le_of_eq (Nat.zero_add _), Nat.le_of_eq (Nat.zero_add _)⟩ (x_recv hK hH (id := [0]) hd0 (ci := 6) rfl (by decide) rfl) hH rfl rfl (Nat.le_of_ble_eq_true rfl) dL_at_21) hS (fun ce q9 H1 locs1 hp1 hS1 hce hcv hcl => ?_)
  refine x_catch hown hE htab [] ⟨0, 83, 84, 19⟩ [] rfl (fun z hz => absurd hz List.not_mem_nil) rfl (by decide) tw241 cfIO hce hcv hcl ?_
  refine lv_astore (lv' := [(4, .ref q9), (0, .ref (ga g [0])), (1, .int y0), (2, .int y1), (3, .int 1)]) hx hb dL_at_84 hl (by decide) rfl (fun ls hl => ?_)
  refine lv_sipush (v := (-1001)) hx hb dL_at_86 (by decide) ?_
  refine W.widen (k := 1) (n := 6) (by omega) (by omega) ?_
  exact x_iret hx hb hr hlocks hS1 dL_at_89 rfl hp1

set_option maxHeartbeats 1000000 in
set_option maxRecDepth 100000 in
theorem w_at2 (l : Launch) (g : xG) (dm : List Nat → Prop) (I : xI) (F : xF) (n fr lo mc ms mc' ms' : Nat) (y0 y1 : Int32) (v : Int32) (Post Post' : Heap → Prop) (hd0 : dm [0]) (hmc : mc ≤ mc' ∧ ms ≤ ms') (hpp : ∀ H, Post H → Post' H) (hM : xM l yX6_clock (xws yX6_clock cX6_clock 3 (some FieldType.int)) fr lo g [.ref (ga g [0]), .int y0, .int y1] (xR g dm I F n) (some (.int v)) Post mc ms) : xMl l yL_at cL_at 5 (some FieldType.int) [(0, 83, 84, 19)] (fr + 1) (8 + (3 + 11) + lo) g [.ref (ga g [0]), .int y0, .int y1, .int 2] (xR g dm I F n) (some (.int v)) Post' mc' ms' := by
  refine xMl.of (by decide) (Nat.le_of_ble_eq_true rfl) ?_
  intro P_ e_ s m_ bl_ mt_ cd_ ls hx hb hr hown hlocks hml htab hE hK hts hH hS hl
  have hl : lv_has ls 5 [(0, .ref (ga g [0])), (1, .int y0), (2, .int y1), (3, .int 2)] := hl
  refine lv_iload_n hx hb dL_at_0 rfl (lv_at hl 3 rfl) ?_
  refine lv_if_ne (tgt := 13) hx hb dL_at_1 (by decide) (fun _ => ?_) (fun q_ => absurd q_ (by decide))
  refine lv_iload_n hx hb dL_at_13 rfl (lv_at hl 3 rfl) ?_
  refine lv_iconst (v := 1) hx hb dL_at_14 (by decide) ?_
  refine lv_icmp_ne (tgt := 27) hx hb dL_at_15 (by decide) (fun _ => ?_) (fun q_ => absurd q_ (by decide))
  refine lv_iload_n hx hb dL_at_27 rfl (lv_at hl 3 rfl) ?_
  refine lv_iconst (v := 2) hx hb dL_at_28 (by decide) ?_
  refine lv_icmp_ne (tgt := 41) hx hb dL_at_29 (by decide) (fun q_ => absurd (by decide) q_) (fun _ => ?_)
  refine lv_aload_n hx hb dL_at_32 rfl (lv_at hl 0 rfl) ?_
  refine lv_iload_n hx hb dL_at_33 rfl (lv_at hl 1 rfl) ?_
  refine lv_iload_n hx hb dL_at_34 rfl (lv_at hl 2 rfl) ?_
  refine x_V1 hx hb hml hown hE hS hl.1 cyX6_clock tw663 hM ⟨Nat.le_refl _, Nat.le_refl _⟩ ⟨(Nat.zero_add mc).symm ▸ hmc.1, (Nat.zero_add ms).symm ▸ hmc.2⟩ (x_recv hK hH (id := [0]) hd0 (ci := 6) rfl (by decide) rfl) hH rfl rfl (Nat.le_of_ble_eq_true rfl) dL_at_35 (fun H locs hP hS => ?_)
  refine lv_goto (tgt := 83) hx hb dL_at_38 (by decide) ?_
  refine W.widen (k := mc') (n := ms') (by omega) (by omega) ?_
  exact x_iret hx hb hr hlocks hS dL_at_83 rfl (hpp _ hP)

set_option maxHeartbeats 1000000 in
set_option maxRecDepth 100000 in
theorem w_at2_eIO (l : Launch) (g : xG) (dm : List Nat → Prop) (I : xI) (F : xF) (n fr lo : Nat) (y0 y1 : Int32) (hd0 : dm [0]) (hT : xTc l yX6_clock (xws yX6_clock cX6_clock 3 (some FieldType.int)) fr lo g [.ref (ga g [0]), .int y0, .int y1] (xR g dm I F n) eIO (xG_ g dm I F n) 1 6) : xMl l yL_at cL_at 5 (some FieldType.int) [(0, 83, 84, 19)] (fr + 1) (8 + (3 + 11) + lo) g [.ref (ga g [0]), .int y0, .int y1, .int 2] (xR g dm I F n) (some (.int (-1001))) (xG_ g dm I F n) 1 6 := by
  refine xMl.of (by decide) (Nat.le_of_ble_eq_true rfl) ?_
  intro P_ e_ s m_ bl_ mt_ cd_ ls hx hb hr hown hlocks hml htab hE hK hts hH hS hl
  have hl : lv_has ls 5 [(0, .ref (ga g [0])), (1, .int y0), (2, .int y1), (3, .int 2)] := hl
  refine lv_iload_n hx hb dL_at_0 rfl (lv_at hl 3 rfl) ?_
  refine lv_if_ne (tgt := 13) hx hb dL_at_1 (by decide) (fun _ => ?_) (fun q_ => absurd q_ (by decide))
  refine lv_iload_n hx hb dL_at_13 rfl (lv_at hl 3 rfl) ?_
  refine lv_iconst (v := 1) hx hb dL_at_14 (by decide) ?_
  refine lv_icmp_ne (tgt := 27) hx hb dL_at_15 (by decide) (fun _ => ?_) (fun q_ => absurd q_ (by decide))
  refine lv_iload_n hx hb dL_at_27 rfl (lv_at hl 3 rfl) ?_
  refine lv_iconst (v := 2) hx hb dL_at_28 (by decide) ?_
  refine lv_icmp_ne (tgt := 41) hx hb dL_at_29 (by decide) (fun q_ => absurd (by decide) q_) (fun _ => ?_)
  refine lv_aload_n hx hb dL_at_32 rfl (lv_at hl 0 rfl) ?_
  refine lv_iload_n hx hb dL_at_33 rfl (lv_at hl 1 rfl) ?_
  refine lv_iload_n hx hb dL_at_34 rfl (lv_at hl 2 rfl) ?_
  refine x_contT (x_VT hx hb hml hown hE hS hl.1 cyX6_clock tw663 hT ⟨Nat.le_refl _, Nat.le_refl _⟩ ⟨Nat.le_of_eq (Nat.zero_add _), Nat.le_of_eq (Nat.zero_add _)⟩ (x_recv hK hH (id := [0]) hd0 (ci := 6) rfl (by decide) rfl) hH rfl rfl (Nat.le_of_ble_eq_true rfl) dL_at_35) hS (fun ce q9 H1 locs1 hp1 hS1 hce hcv hcl => ?_)
  refine x_catch hown hE htab [] ⟨0, 83, 84, 19⟩ [] rfl (fun z hz => absurd hz List.not_mem_nil) rfl (by decide) tw241 cfIO hce hcv hcl ?_
  refine lv_astore (lv' := [(4, .ref q9), (0, .ref (ga g [0])), (1, .int y0), (2, .int y1), (3, .int 2)]) hx hb dL_at_84 hl (by decide) rfl (fun ls hl => ?_)
  refine lv_sipush (v := (-1001)) hx hb dL_at_86 (by decide) ?_
  refine W.widen (k := 1) (n := 6) (by omega) (by omega) ?_
  exact x_iret hx hb hr hlocks hS1 dL_at_89 rfl hp1

set_option maxHeartbeats 1000000 in
set_option maxRecDepth 100000 in
theorem w_at3 (l : Launch) (g : xG) (dm : List Nat → Prop) (I : xI) (F : xF) (n fr lo mc ms mc' ms' : Nat) (y0 y1 : Int32) (v : Int32) (Post Post' : Heap → Prop) (hd0 : dm [0]) (hmc : mc ≤ mc' ∧ ms ≤ ms') (hpp : ∀ H, Post H → Post' H) (hM : xM l yX6_clockByReplay (xws yX6_clockByReplay cX6_clockByReplay 3 (some FieldType.int)) fr lo g [.ref (ga g [0]), .int y0, .int y1] (xR g dm I F n) (some (.int v)) Post mc ms) : xMl l yL_at cL_at 5 (some FieldType.int) [(0, 83, 84, 19)] (fr + 1) (8 + (3 + 11) + lo) g [.ref (ga g [0]), .int y0, .int y1, .int 3] (xR g dm I F n) (some (.int v)) Post' mc' ms' := by
  refine xMl.of (by decide) (Nat.le_of_ble_eq_true rfl) ?_
  intro P_ e_ s m_ bl_ mt_ cd_ ls hx hb hr hown hlocks hml htab hE hK hts hH hS hl
  have hl : lv_has ls 5 [(0, .ref (ga g [0])), (1, .int y0), (2, .int y1), (3, .int 3)] := hl
  refine lv_iload_n hx hb dL_at_0 rfl (lv_at hl 3 rfl) ?_
  refine lv_if_ne (tgt := 13) hx hb dL_at_1 (by decide) (fun _ => ?_) (fun q_ => absurd q_ (by decide))
  refine lv_iload_n hx hb dL_at_13 rfl (lv_at hl 3 rfl) ?_
  refine lv_iconst (v := 1) hx hb dL_at_14 (by decide) ?_
  refine lv_icmp_ne (tgt := 27) hx hb dL_at_15 (by decide) (fun _ => ?_) (fun q_ => absurd q_ (by decide))
  refine lv_iload_n hx hb dL_at_27 rfl (lv_at hl 3 rfl) ?_
  refine lv_iconst (v := 2) hx hb dL_at_28 (by decide) ?_
  refine lv_icmp_ne (tgt := 41) hx hb dL_at_29 (by decide) (fun _ => ?_) (fun q_ => absurd q_ (by decide))
  refine lv_iload_n hx hb dL_at_41 rfl (lv_at hl 3 rfl) ?_
  refine lv_iconst (v := 3) hx hb dL_at_42 (by decide) ?_
  refine lv_icmp_ne (tgt := 55) hx hb dL_at_43 (by decide) (fun q_ => absurd (by decide) q_) (fun _ => ?_)
  refine lv_aload_n hx hb dL_at_46 rfl (lv_at hl 0 rfl) ?_
  refine lv_iload_n hx hb dL_at_47 rfl (lv_at hl 1 rfl) ?_
  refine lv_iload_n hx hb dL_at_48 rfl (lv_at hl 2 rfl) ?_
  refine x_V1 hx hb hml hown hE hS hl.1 cyX6_clockByReplay tw668 hM ⟨Nat.le_refl _, Nat.le_refl _⟩ ⟨(Nat.zero_add mc).symm ▸ hmc.1, (Nat.zero_add ms).symm ▸ hmc.2⟩ (x_recv hK hH (id := [0]) hd0 (ci := 6) rfl (by decide) rfl) hH rfl rfl (Nat.le_of_ble_eq_true rfl) dL_at_49 (fun H locs hP hS => ?_)
  refine lv_goto (tgt := 83) hx hb dL_at_52 (by decide) ?_
  refine W.widen (k := mc') (n := ms') (by omega) (by omega) ?_
  exact x_iret hx hb hr hlocks hS dL_at_83 rfl (hpp _ hP)

set_option maxHeartbeats 1000000 in
set_option maxRecDepth 100000 in
theorem w_at3_eIO (l : Launch) (g : xG) (dm : List Nat → Prop) (I : xI) (F : xF) (n fr lo : Nat) (y0 y1 : Int32) (hd0 : dm [0]) (hT : xTc l yX6_clockByReplay (xws yX6_clockByReplay cX6_clockByReplay 3 (some FieldType.int)) fr lo g [.ref (ga g [0]), .int y0, .int y1] (xR g dm I F n) eIO (xG_ g dm I F n) 1 6) : xMl l yL_at cL_at 5 (some FieldType.int) [(0, 83, 84, 19)] (fr + 1) (8 + (3 + 11) + lo) g [.ref (ga g [0]), .int y0, .int y1, .int 3] (xR g dm I F n) (some (.int (-1001))) (xG_ g dm I F n) 1 6 := by
  refine xMl.of (by decide) (Nat.le_of_ble_eq_true rfl) ?_
  intro P_ e_ s m_ bl_ mt_ cd_ ls hx hb hr hown hlocks hml htab hE hK hts hH hS hl
  have hl : lv_has ls 5 [(0, .ref (ga g [0])), (1, .int y0), (2, .int y1), (3, .int 3)] := hl
  refine lv_iload_n hx hb dL_at_0 rfl (lv_at hl 3 rfl) ?_
  refine lv_if_ne (tgt := 13) hx hb dL_at_1 (by decide) (fun _ => ?_) (fun q_ => absurd q_ (by decide))
  refine lv_iload_n hx hb dL_at_13 rfl (lv_at hl 3 rfl) ?_
  refine lv_iconst (v := 1) hx hb dL_at_14 (by decide) ?_
  refine lv_icmp_ne (tgt := 27) hx hb dL_at_15 (by decide) (fun _ => ?_) (fun q_ => absurd q_ (by decide))
  refine lv_iload_n hx hb dL_at_27 rfl (lv_at hl 3 rfl) ?_
  refine lv_iconst (v := 2) hx hb dL_at_28 (by decide) ?_
  refine lv_icmp_ne (tgt := 41) hx hb dL_at_29 (by decide) (fun _ => ?_) (fun q_ => absurd q_ (by decide))
  refine lv_iload_n hx hb dL_at_41 rfl (lv_at hl 3 rfl) ?_
  refine lv_iconst (v := 3) hx hb dL_at_42 (by decide) ?_
  refine lv_icmp_ne (tgt := 55) hx hb dL_at_43 (by decide) (fun q_ => absurd (by decide) q_) (fun _ => ?_)
  refine lv_aload_n hx hb dL_at_46 rfl (lv_at hl 0 rfl) ?_
  refine lv_iload_n hx hb dL_at_47 rfl (lv_at hl 1 rfl) ?_
  refine lv_iload_n hx hb dL_at_48 rfl (lv_at hl 2 rfl) ?_
  refine x_contT (x_VT hx hb hml hown hE hS hl.1 cyX6_clockByReplay tw668 hT ⟨Nat.le_refl _, Nat.le_refl _⟩ ⟨Nat.le_of_eq (Nat.zero_add _), Nat.le_of_eq (Nat.zero_add _)⟩ (x_recv hK hH (id := [0]) hd0 (ci := 6) rfl (by decide) rfl) hH rfl rfl (Nat.le_of_ble_eq_true rfl) dL_at_49) hS (fun ce q9 H1 locs1 hp1 hS1 hce hcv hcl => ?_)
  refine x_catch hown hE htab [] ⟨0, 83, 84, 19⟩ [] rfl (fun z hz => absurd hz List.not_mem_nil) rfl (by decide) tw241 cfIO hce hcv hcl ?_
  refine lv_astore (lv' := [(4, .ref q9), (0, .ref (ga g [0])), (1, .int y0), (2, .int y1), (3, .int 3)]) hx hb dL_at_84 hl (by decide) rfl (fun ls hl => ?_)
  refine lv_sipush (v := (-1001)) hx hb dL_at_86 (by decide) ?_
  refine W.widen (k := 1) (n := 6) (by omega) (by omega) ?_
  exact x_iret hx hb hr hlocks hS1 dL_at_89 rfl hp1

set_option maxHeartbeats 1000000 in
set_option maxRecDepth 100000 in
theorem w_at4 (l : Launch) (g : xG) (dm : List Nat → Prop) (I : xI) (F : xF) (n fr lo mc ms mc' ms' : Nat) (y0 y1 : Int32) (v : Int32) (Post Post' : Heap → Prop) (hd0 : dm [0]) (hmc : mc ≤ mc' ∧ ms ≤ ms') (hpp : ∀ H, Post H → Post' H) (hM : xM l yX6_count (xws yX6_count cX6_count 3 (some FieldType.int)) fr lo g [.ref (ga g [0]), .int y0, .int y1] (xR g dm I F n) (some (.int v)) Post mc ms) : xMl l yL_at cL_at 5 (some FieldType.int) [(0, 83, 84, 19)] (fr + 1) (8 + (3 + 11) + lo) g [.ref (ga g [0]), .int y0, .int y1, .int 4] (xR g dm I F n) (some (.int v)) Post' mc' ms' := by
  refine xMl.of (by decide) (Nat.le_of_ble_eq_true rfl) ?_
  intro P_ e_ s m_ bl_ mt_ cd_ ls hx hb hr hown hlocks hml htab hE hK hts hH hS hl
  have hl : lv_has ls 5 [(0, .ref (ga g [0])), (1, .int y0), (2, .int y1), (3, .int 4)] := hl
  refine lv_iload_n hx hb dL_at_0 rfl (lv_at hl 3 rfl) ?_
  refine lv_if_ne (tgt := 13) hx hb dL_at_1 (by decide) (fun _ => ?_) (fun q_ => absurd q_ (by decide))
  refine lv_iload_n hx hb dL_at_13 rfl (lv_at hl 3 rfl) ?_
  refine lv_iconst (v := 1) hx hb dL_at_14 (by decide) ?_
  refine lv_icmp_ne (tgt := 27) hx hb dL_at_15 (by decide) (fun _ => ?_) (fun q_ => absurd q_ (by decide))
  refine lv_iload_n hx hb dL_at_27 rfl (lv_at hl 3 rfl) ?_
  refine lv_iconst (v := 2) hx hb dL_at_28 (by decide) ?_
  refine lv_icmp_ne (tgt := 41) hx hb dL_at_29 (by decide) (fun _ => ?_) (fun q_ => absurd q_ (by decide))
  refine lv_iload_n hx hb dL_at_41 rfl (lv_at hl 3 rfl) ?_
  refine lv_iconst (v := 3) hx hb dL_at_42 (by decide) ?_
  refine lv_icmp_ne (tgt := 55) hx hb dL_at_43 (by decide) (fun _ => ?_) (fun q_ => absurd q_ (by decide))
  refine lv_iload_n hx hb dL_at_55 rfl (lv_at hl 3 rfl) ?_
  refine lv_iconst (v := 4) hx hb dL_at_56 (by decide) ?_
  refine lv_icmp_ne (tgt := 69) hx hb dL_at_57 (by decide) (fun q_ => absurd (by decide) q_) (fun _ => ?_)
  refine lv_aload_n hx hb dL_at_60 rfl (lv_at hl 0 rfl) ?_
  refine lv_iload_n hx hb dL_at_61 rfl (lv_at hl 1 rfl) ?_
  refine lv_iload_n hx hb dL_at_62 rfl (lv_at hl 2 rfl) ?_
  refine x_V1 hx hb hml hown hE hS hl.1 cyX6_count tw672 hM ⟨Nat.le_refl _, Nat.le_refl _⟩ ⟨(Nat.zero_add mc).symm ▸ hmc.1, (Nat.zero_add ms).symm ▸ hmc.2⟩ (x_recv hK hH (id := [0]) hd0 (ci := 6) rfl (by decide) rfl) hH rfl rfl (Nat.le_of_ble_eq_true rfl) dL_at_63 (fun H locs hP hS => ?_)
  refine lv_goto (tgt := 83) hx hb dL_at_66 (by decide) ?_
  refine W.widen (k := mc') (n := ms') (by omega) (by omega) ?_
  exact x_iret hx hb hr hlocks hS dL_at_83 rfl (hpp _ hP)

set_option maxHeartbeats 1000000 in
set_option maxRecDepth 100000 in
theorem w_at4_eIO (l : Launch) (g : xG) (dm : List Nat → Prop) (I : xI) (F : xF) (n fr lo : Nat) (y0 y1 : Int32) (hd0 : dm [0]) (hT : xTc l yX6_count (xws yX6_count cX6_count 3 (some FieldType.int)) fr lo g [.ref (ga g [0]), .int y0, .int y1] (xR g dm I F n) eIO (xG_ g dm I F n) 1 6) : xMl l yL_at cL_at 5 (some FieldType.int) [(0, 83, 84, 19)] (fr + 1) (8 + (3 + 11) + lo) g [.ref (ga g [0]), .int y0, .int y1, .int 4] (xR g dm I F n) (some (.int (-1001))) (xG_ g dm I F n) 1 6 := by
  refine xMl.of (by decide) (Nat.le_of_ble_eq_true rfl) ?_
  intro P_ e_ s m_ bl_ mt_ cd_ ls hx hb hr hown hlocks hml htab hE hK hts hH hS hl
  have hl : lv_has ls 5 [(0, .ref (ga g [0])), (1, .int y0), (2, .int y1), (3, .int 4)] := hl
  refine lv_iload_n hx hb dL_at_0 rfl (lv_at hl 3 rfl) ?_
  refine lv_if_ne (tgt := 13) hx hb dL_at_1 (by decide) (fun _ => ?_) (fun q_ => absurd q_ (by decide))
  refine lv_iload_n hx hb dL_at_13 rfl (lv_at hl 3 rfl) ?_
  refine lv_iconst (v := 1) hx hb dL_at_14 (by decide) ?_
  refine lv_icmp_ne (tgt := 27) hx hb dL_at_15 (by decide) (fun _ => ?_) (fun q_ => absurd q_ (by decide))
  refine lv_iload_n hx hb dL_at_27 rfl (lv_at hl 3 rfl) ?_
  refine lv_iconst (v := 2) hx hb dL_at_28 (by decide) ?_
  refine lv_icmp_ne (tgt := 41) hx hb dL_at_29 (by decide) (fun _ => ?_) (fun q_ => absurd q_ (by decide))
  refine lv_iload_n hx hb dL_at_41 rfl (lv_at hl 3 rfl) ?_
  refine lv_iconst (v := 3) hx hb dL_at_42 (by decide) ?_
  refine lv_icmp_ne (tgt := 55) hx hb dL_at_43 (by decide) (fun _ => ?_) (fun q_ => absurd q_ (by decide))
  refine lv_iload_n hx hb dL_at_55 rfl (lv_at hl 3 rfl) ?_
  refine lv_iconst (v := 4) hx hb dL_at_56 (by decide) ?_
  refine lv_icmp_ne (tgt := 69) hx hb dL_at_57 (by decide) (fun q_ => absurd (by decide) q_) (fun _ => ?_)
  refine lv_aload_n hx hb dL_at_60 rfl (lv_at hl 0 rfl) ?_
  refine lv_iload_n hx hb dL_at_61 rfl (lv_at hl 1 rfl) ?_
  refine lv_iload_n hx hb dL_at_62 rfl (lv_at hl 2 rfl) ?_
  refine x_contT (x_VT hx hb hml hown hE hS hl.1 cyX6_count tw672 hT ⟨Nat.le_refl _, Nat.le_refl _⟩ ⟨Nat.le_of_eq (Nat.zero_add _), Nat.le_of_eq (Nat.zero_add _)⟩ (x_recv hK hH (id := [0]) hd0 (ci := 6) rfl (by decide) rfl) hH rfl rfl (Nat.le_of_ble_eq_true rfl) dL_at_63) hS (fun ce q9 H1 locs1 hp1 hS1 hce hcv hcl => ?_)
  refine x_catch hown hE htab [] ⟨0, 83, 84, 19⟩ [] rfl (fun z hz => absurd hz List.not_mem_nil) rfl (by decide) tw241 cfIO hce hcv hcl ?_
  refine lv_astore (lv' := [(4, .ref q9), (0, .ref (ga g [0])), (1, .int y0), (2, .int y1), (3, .int 4)]) hx hb dL_at_84 hl (by decide) rfl (fun ls hl => ?_)
  refine lv_sipush (v := (-1001)) hx hb dL_at_86 (by decide) ?_
  refine W.widen (k := 1) (n := 6) (by omega) (by omega) ?_
  exact x_iret hx hb hr hlocks hS1 dL_at_89 rfl hp1

set_option maxHeartbeats 1000000 in
set_option maxRecDepth 100000 in
theorem w_at5 (l : Launch) (g : xG) (dm : List Nat → Prop) (I : xI) (F : xF) (n fr lo mc ms mc' ms' : Nat) (y0 y1 : Int32) (v : Int32) (Post Post' : Heap → Prop) (hv : sBo v) (hd0 : dm [0]) (hmc : mc ≤ mc' ∧ ms ≤ ms') (hpp : ∀ H, Post H → Post' H) (hM : xM l yX6_isLate (xws yX6_isLate cX6_isLate 4 (some FieldType.boolean)) fr lo g [.ref (ga g [0]), .int y0, .int y1] (xR g dm I F n) (some (.int v)) Post mc ms) : xMl l yL_at cL_at 5 (some FieldType.int) [(0, 83, 84, 19)] (fr + 1) (8 + (4 + 11) + lo) g [.ref (ga g [0]), .int y0, .int y1, .int 5] (xR g dm I F n) (some (.int v)) Post' mc' ms' := by
  refine xMl.of (by decide) (Nat.le_of_ble_eq_true rfl) ?_
  intro P_ e_ s m_ bl_ mt_ cd_ ls hx hb hr hown hlocks hml htab hE hK hts hH hS hl
  have hl : lv_has ls 5 [(0, .ref (ga g [0])), (1, .int y0), (2, .int y1), (3, .int 5)] := hl
  refine lv_iload_n hx hb dL_at_0 rfl (lv_at hl 3 rfl) ?_
  refine lv_if_ne (tgt := 13) hx hb dL_at_1 (by decide) (fun _ => ?_) (fun q_ => absurd q_ (by decide))
  refine lv_iload_n hx hb dL_at_13 rfl (lv_at hl 3 rfl) ?_
  refine lv_iconst (v := 1) hx hb dL_at_14 (by decide) ?_
  refine lv_icmp_ne (tgt := 27) hx hb dL_at_15 (by decide) (fun _ => ?_) (fun q_ => absurd q_ (by decide))
  refine lv_iload_n hx hb dL_at_27 rfl (lv_at hl 3 rfl) ?_
  refine lv_iconst (v := 2) hx hb dL_at_28 (by decide) ?_
  refine lv_icmp_ne (tgt := 41) hx hb dL_at_29 (by decide) (fun _ => ?_) (fun q_ => absurd q_ (by decide))
  refine lv_iload_n hx hb dL_at_41 rfl (lv_at hl 3 rfl) ?_
  refine lv_iconst (v := 3) hx hb dL_at_42 (by decide) ?_
  refine lv_icmp_ne (tgt := 55) hx hb dL_at_43 (by decide) (fun _ => ?_) (fun q_ => absurd q_ (by decide))
  refine lv_iload_n hx hb dL_at_55 rfl (lv_at hl 3 rfl) ?_
  refine lv_iconst (v := 4) hx hb dL_at_56 (by decide) ?_
  refine lv_icmp_ne (tgt := 69) hx hb dL_at_57 (by decide) (fun _ => ?_) (fun q_ => absurd q_ (by decide))
  refine lv_aload_n hx hb dL_at_69 rfl (lv_at hl 0 rfl) ?_
  refine lv_iload_n hx hb dL_at_70 rfl (lv_at hl 1 rfl) ?_
  refine lv_iload_n hx hb dL_at_71 rfl (lv_at hl 2 rfl) ?_
  refine x_V1 hx hb hml hown hE hS hl.1 cyX6_isLate tw680 hM ⟨Nat.le_refl _, Nat.le_refl _⟩ ⟨(Nat.zero_add mc).symm ▸ hmc.1, (Nat.zero_add ms).symm ▸ hmc.2⟩ (x_recv hK hH (id := [0]) hd0 (ci := 6) rfl (by decide) rfl) hH rfl rfl (Nat.le_of_ble_eq_true rfl) dL_at_72 (fun H locs hP hS => ?_)
  rcases hv with hv | hv
  · refine lv_if_eq (tgt := 82) hx hb dL_at_75 (by decide) (fun _ => ?_) (fun q_ => absurd hv q_)
    refine lv_iconst (v := 0) hx hb dL_at_82 (by decide) ?_
    refine W.widen (k := mc') (n := ms') (by omega) (by omega) ?_
    exact x_iret hx hb hr hlocks hS dL_at_83 hv.symm (hpp _ hP)
  · refine lv_if_eq (tgt := 82) hx hb dL_at_75 (by decide) (fun q_ => absurd q_ (by rw [hv]; decide)) (fun _ => ?_)
    refine lv_iconst (v := 1) hx hb dL_at_78 (by decide) ?_
    refine lv_goto (tgt := 83) hx hb dL_at_79 (by decide) ?_
    refine W.widen (k := mc') (n := ms') (by omega) (by omega) ?_
    exact x_iret hx hb hr hlocks hS dL_at_83 hv.symm (hpp _ hP)

set_option maxHeartbeats 1000000 in
set_option maxRecDepth 100000 in
theorem w_at5_eIO (l : Launch) (g : xG) (dm : List Nat → Prop) (I : xI) (F : xF) (n fr lo : Nat) (y0 y1 : Int32) (hd0 : dm [0]) (hT : xTc l yX6_isLate (xws yX6_isLate cX6_isLate 4 (some FieldType.boolean)) fr lo g [.ref (ga g [0]), .int y0, .int y1] (xR g dm I F n) eIO (xG_ g dm I F n) 1 6) : xMl l yL_at cL_at 5 (some FieldType.int) [(0, 83, 84, 19)] (fr + 1) (8 + (4 + 11) + lo) g [.ref (ga g [0]), .int y0, .int y1, .int 5] (xR g dm I F n) (some (.int (-1001))) (xG_ g dm I F n) 1 6 := by
  refine xMl.of (by decide) (Nat.le_of_ble_eq_true rfl) ?_
  intro P_ e_ s m_ bl_ mt_ cd_ ls hx hb hr hown hlocks hml htab hE hK hts hH hS hl
  have hl : lv_has ls 5 [(0, .ref (ga g [0])), (1, .int y0), (2, .int y1), (3, .int 5)] := hl
  refine lv_iload_n hx hb dL_at_0 rfl (lv_at hl 3 rfl) ?_
  refine lv_if_ne (tgt := 13) hx hb dL_at_1 (by decide) (fun _ => ?_) (fun q_ => absurd q_ (by decide))
  refine lv_iload_n hx hb dL_at_13 rfl (lv_at hl 3 rfl) ?_
  refine lv_iconst (v := 1) hx hb dL_at_14 (by decide) ?_
  refine lv_icmp_ne (tgt := 27) hx hb dL_at_15 (by decide) (fun _ => ?_) (fun q_ => absurd q_ (by decide))
  refine lv_iload_n hx hb dL_at_27 rfl (lv_at hl 3 rfl) ?_
  refine lv_iconst (v := 2) hx hb dL_at_28 (by decide) ?_
  refine lv_icmp_ne (tgt := 41) hx hb dL_at_29 (by decide) (fun _ => ?_) (fun q_ => absurd q_ (by decide))
  refine lv_iload_n hx hb dL_at_41 rfl (lv_at hl 3 rfl) ?_
  refine lv_iconst (v := 3) hx hb dL_at_42 (by decide) ?_
  refine lv_icmp_ne (tgt := 55) hx hb dL_at_43 (by decide) (fun _ => ?_) (fun q_ => absurd q_ (by decide))
  refine lv_iload_n hx hb dL_at_55 rfl (lv_at hl 3 rfl) ?_
  refine lv_iconst (v := 4) hx hb dL_at_56 (by decide) ?_
  refine lv_icmp_ne (tgt := 69) hx hb dL_at_57 (by decide) (fun _ => ?_) (fun q_ => absurd q_ (by decide))
  refine lv_aload_n hx hb dL_at_69 rfl (lv_at hl 0 rfl) ?_
  refine lv_iload_n hx hb dL_at_70 rfl (lv_at hl 1 rfl) ?_
  refine lv_iload_n hx hb dL_at_71 rfl (lv_at hl 2 rfl) ?_
  refine x_contT (x_VT hx hb hml hown hE hS hl.1 cyX6_isLate tw680 hT ⟨Nat.le_refl _, Nat.le_refl _⟩ ⟨Nat.le_of_eq (Nat.zero_add _), Nat.le_of_eq (Nat.zero_add _)⟩ (x_recv hK hH (id := [0]) hd0 (ci := 6) rfl (by decide) rfl) hH rfl rfl (Nat.le_of_ble_eq_true rfl) dL_at_72) hS (fun ce q9 H1 locs1 hp1 hS1 hce hcv hcl => ?_)
  refine x_catch hown hE htab [] ⟨0, 83, 84, 19⟩ [] rfl (fun z hz => absurd hz List.not_mem_nil) rfl (by decide) tw241 cfIO hce hcv hcl ?_
  refine lv_astore (lv' := [(4, .ref q9), (0, .ref (ga g [0])), (1, .int y0), (2, .int y1), (3, .int 5)]) hx hb dL_at_84 hl (by decide) rfl (fun ls hl => ?_)
  refine lv_sipush (v := (-1001)) hx hb dL_at_86 (by decide) ?_
  refine W.widen (k := 1) (n := 6) (by omega) (by omega) ?_
  exact x_iret hx hb hr hlocks hS1 dL_at_89 rfl hp1

set_option maxHeartbeats 1000000 in
set_option maxRecDepth 100000 in
theorem w_holds (l : Launch) (g : xG) (dm : List Nat → Prop) (I : xI) (F : xF) (n fr lo mc ms mc' ms' : Nat) (y0 y1 y2 y3 : Int32) (v : Int32) (Post Post' : Heap → Prop) (hv : sBo v) (hd0 : dm [0]) (hmc : mc ≤ mc' ∧ ms ≤ ms') (hpp : ∀ H, Post H → Post' H) (hM : xM l yX6_holds (xws yX6_holds cX6_holds 9 (some FieldType.boolean)) fr lo g [.ref (ga g [0]), .int y0, .int y1, .int y2, .int y3] (xR g dm I F n) (some (.int v)) Post mc ms) : xMl l yL_holds cL_holds 6 (some FieldType.int) [(0, 17, 18, 19), (0, 17, 24, 98)] (fr + 1) (8 + (9 + 11) + lo) g [.ref (ga g [0]), .int y0, .int y1, .int y2, .int y3] (xR g dm I F n) (some (.int v)) Post' mc' ms' := by
  refine xMl.of (by decide) (Nat.le_of_ble_eq_true rfl) ?_
  intro P_ e_ s m_ bl_ mt_ cd_ ls hx hb hr hown hlocks hml htab hE hK hts hH hS hl
  have hl : lv_has ls 6 [(0, .ref (ga g [0])), (1, .int y0), (2, .int y1), (3, .int y2), (4, .int y3)] := hl
  refine lv_aload_n hx hb dL_holds_0 rfl (lv_at hl 0 rfl) ?_
  refine lv_iload_n hx hb dL_holds_1 rfl (lv_at hl 1 rfl) ?_
  refine lv_iload_n hx hb dL_holds_2 rfl (lv_at hl 2 rfl) ?_
  refine lv_iload_n hx hb dL_holds_3 rfl (lv_at hl 3 rfl) ?_
  refine lv_iload hx hb dL_holds_4 (lv_at hl 4 rfl) ?_
  refine x_V1 hx hb hml hown hE hS hl.1 cyX6_holds tw690 hM ⟨Nat.le_refl _, Nat.le_refl _⟩ ⟨(Nat.zero_add mc).symm ▸ hmc.1, (Nat.zero_add ms).symm ▸ hmc.2⟩ (x_recv hK hH (id := [0]) hd0 (ci := 6) rfl (by decide) rfl) hH rfl rfl (Nat.le_of_ble_eq_true rfl) dL_holds_6 (fun H locs hP hS => ?_)
  rcases hv with hv | hv
  · refine lv_if_eq (tgt := 16) hx hb dL_holds_9 (by decide) (fun _ => ?_) (fun q_ => absurd hv q_)
    refine lv_iconst (v := 0) hx hb dL_holds_16 (by decide) ?_
    refine W.widen (k := mc') (n := ms') (by omega) (by omega) ?_
    exact x_iret hx hb hr hlocks hS dL_holds_17 hv.symm (hpp _ hP)
  · refine lv_if_eq (tgt := 16) hx hb dL_holds_9 (by decide) (fun q_ => absurd q_ (by rw [hv]; decide)) (fun _ => ?_)
    refine lv_iconst (v := 1) hx hb dL_holds_12 (by decide) ?_
    refine lv_goto (tgt := 17) hx hb dL_holds_13 (by decide) ?_
    refine W.widen (k := mc') (n := ms') (by omega) (by omega) ?_
    exact x_iret hx hb hr hlocks hS dL_holds_17 hv.symm (hpp _ hP)

set_option maxHeartbeats 1000000 in
set_option maxRecDepth 100000 in
theorem w_holds_eIO (l : Launch) (g : xG) (dm : List Nat → Prop) (I : xI) (F : xF) (n fr lo : Nat) (y0 y1 y2 y3 : Int32) (hd0 : dm [0]) (hT : xTc l yX6_holds (xws yX6_holds cX6_holds 9 (some FieldType.boolean)) fr lo g [.ref (ga g [0]), .int y0, .int y1, .int y2, .int y3] (xR g dm I F n) eIO (xG_ g dm I F n) 1 6) : xMl l yL_holds cL_holds 6 (some FieldType.int) [(0, 17, 18, 19), (0, 17, 24, 98)] (fr + 1) (8 + (9 + 11) + lo) g [.ref (ga g [0]), .int y0, .int y1, .int y2, .int y3] (xR g dm I F n) (some (.int (-1001))) (xG_ g dm I F n) 1 6 := by
  refine xMl.of (by decide) (Nat.le_of_ble_eq_true rfl) ?_
  intro P_ e_ s m_ bl_ mt_ cd_ ls hx hb hr hown hlocks hml htab hE hK hts hH hS hl
  have hl : lv_has ls 6 [(0, .ref (ga g [0])), (1, .int y0), (2, .int y1), (3, .int y2), (4, .int y3)] := hl
  refine lv_aload_n hx hb dL_holds_0 rfl (lv_at hl 0 rfl) ?_
  refine lv_iload_n hx hb dL_holds_1 rfl (lv_at hl 1 rfl) ?_
  refine lv_iload_n hx hb dL_holds_2 rfl (lv_at hl 2 rfl) ?_
  refine lv_iload_n hx hb dL_holds_3 rfl (lv_at hl 3 rfl) ?_
  refine lv_iload hx hb dL_holds_4 (lv_at hl 4 rfl) ?_
  refine x_contT (x_VT hx hb hml hown hE hS hl.1 cyX6_holds tw690 hT ⟨Nat.le_refl _, Nat.le_refl _⟩ ⟨Nat.le_of_eq (Nat.zero_add _), Nat.le_of_eq (Nat.zero_add _)⟩ (x_recv hK hH (id := [0]) hd0 (ci := 6) rfl (by decide) rfl) hH rfl rfl (Nat.le_of_ble_eq_true rfl) dL_holds_6) hS (fun ce q9 H1 locs1 hp1 hS1 hce hcv hcl => ?_)
  refine x_catch hown hE htab [] ⟨0, 17, 18, 19⟩ [⟨0, 17, 24, 98⟩] rfl (fun z hz => absurd hz List.not_mem_nil) rfl (by decide) tw241 cfIO hce hcv hcl ?_
  refine lv_astore (lv' := [(5, .ref q9), (0, .ref (ga g [0])), (1, .int y0), (2, .int y1), (3, .int y2), (4, .int y3)]) hx hb dL_holds_18 hl (by decide) rfl (fun ls hl => ?_)
  refine lv_sipush (v := (-1001)) hx hb dL_holds_20 (by decide) ?_
  refine W.widen (k := 1) (n := 6) (by omega) (by omega) ?_
  exact x_iret hx hb hr hlocks hS1 dL_holds_23 rfl hp1

set_option maxHeartbeats 1000000 in
set_option maxRecDepth 100000 in
theorem w_holds_eNS (l : Launch) (g : xG) (dm : List Nat → Prop) (I : xI) (F : xF) (n fr lo : Nat) (y0 y1 y2 y3 : Int32) (hd0 : dm [0]) (hT : xTc l yX6_holds (xws yX6_holds cX6_holds 9 (some FieldType.boolean)) fr lo g [.ref (ga g [0]), .int y0, .int y1, .int y2, .int y3] (xR g dm I F n) eNS (xG_ g dm I F n) 1 6) : xMl l yL_holds cL_holds 6 (some FieldType.int) [(0, 17, 18, 19), (0, 17, 24, 98)] (fr + 1) (8 + (9 + 11) + lo) g [.ref (ga g [0]), .int y0, .int y1, .int y2, .int y3] (xR g dm I F n) (some (.int (-1002))) (xG_ g dm I F n) 1 6 := by
  refine xMl.of (by decide) (Nat.le_of_ble_eq_true rfl) ?_
  intro P_ e_ s m_ bl_ mt_ cd_ ls hx hb hr hown hlocks hml htab hE hK hts hH hS hl
  have hl : lv_has ls 6 [(0, .ref (ga g [0])), (1, .int y0), (2, .int y1), (3, .int y2), (4, .int y3)] := hl
  refine lv_aload_n hx hb dL_holds_0 rfl (lv_at hl 0 rfl) ?_
  refine lv_iload_n hx hb dL_holds_1 rfl (lv_at hl 1 rfl) ?_
  refine lv_iload_n hx hb dL_holds_2 rfl (lv_at hl 2 rfl) ?_
  refine lv_iload_n hx hb dL_holds_3 rfl (lv_at hl 3 rfl) ?_
  refine lv_iload hx hb dL_holds_4 (lv_at hl 4 rfl) ?_
  refine x_contT (x_VT hx hb hml hown hE hS hl.1 cyX6_holds tw690 hT ⟨Nat.le_refl _, Nat.le_refl _⟩ ⟨Nat.le_of_eq (Nat.zero_add _), Nat.le_of_eq (Nat.zero_add _)⟩ (x_recv hK hH (id := [0]) hd0 (ci := 6) rfl (by decide) rfl) hH rfl rfl (Nat.le_of_ble_eq_true rfl) dL_holds_6) hS (fun ce q9 H1 locs1 hp1 hS1 hce hcv hcl => ?_)
  refine x_catch hown hE htab [⟨0, 17, 18, 19⟩] ⟨0, 17, 24, 98⟩ [] rfl (fun z hz => by
        simp only [List.mem_cons, List.not_mem_nil, or_false] at hz
        rcases hz with rfl
        exact Or.inr ⟨by decide, _, tw241, hE.ls _ (List.mem_of_getElem? (i := 6) rfl)⟩) rfl (by decide) tw689 cfNS hce hcv hcl ?_
  refine lv_astore (lv' := [(5, .ref q9), (0, .ref (ga g [0])), (1, .int y0), (2, .int y1), (3, .int y2), (4, .int y3)]) hx hb dL_holds_24 hl (by decide) rfl (fun ls hl => ?_)
  refine lv_sipush (v := (-1002)) hx hb dL_holds_26 (by decide) ?_
  refine W.widen (k := 1) (n := 6) (by omega) (by omega) ?_
  exact x_iret hx hb hr hlocks hS1 dL_holds_29 rfl hp1

set_option maxHeartbeats 1000000 in
set_option maxRecDepth 100000 in
theorem w_case00 (l : Launch) (g : xG) (dm : List Nat → Prop) (I : xI) (F : xF) (n fr lo mc ms mc' ms' : Nat) (y0 : Int32) (v : Int32) (Post Post' : Heap → Prop) (hd0 : dm [0]) (hmc : mc ≤ mc' ∧ ms ≤ ms') (hpp : ∀ H, Post H → Post' H) (hM : xM l yX6_active (xws yX6_active cX6_active 2 (some FieldType.int)) fr lo g [.ref (ga g [0]), .int y0] (xR g dm I F n) (some (.int v)) Post mc ms) : xMl l yL_case0 cL_case0 4 (some FieldType.int) [(0, 49, 108, 19), (50, 63, 108, 19), (64, 69, 108, 19), (70, 75, 108, 19), (76, 81, 108, 19), (82, 95, 108, 19), (96, 101, 108, 19), (102, 107, 108, 19), (0, 49, 113, 98), (50, 63, 113, 98), (64, 69, 113, 98), (70, 75, 113, 98), (76, 81, 113, 98), (82, 95, 113, 98), (96, 101, 113, 98), (102, 107, 113, 98)] (fr + 1) (8 + (2 + 11) + lo) g [.ref (ga g [0]), .int y0, .int 0] (xR g dm I F n) (some (.int v)) Post' mc' ms' := by
  refine xMl.of (by decide) (Nat.le_of_ble_eq_true rfl) ?_
  intro P_ e_ s m_ bl_ mt_ cd_ ls hx hb hr hown hlocks hml htab hE hK hts hH hS hl
  have hl : lv_has ls 4 [(0, .ref (ga g [0])), (1, .int y0), (2, .int 0)] := hl
  refine lv_iload_n hx hb dL_case0_0 rfl (lv_at hl 2 rfl) ?_
  refine lv_tableIn (tgt := 44) hx hb dL_case0_1 (by decide) (by decide) rfl (by decide) ?_
  refine lv_aload_n hx hb dL_case0_44 rfl (lv_at hl 0 rfl) ?_
  refine lv_iload_n hx hb dL_case0_45 rfl (lv_at hl 1 rfl) ?_
  refine x_V1 hx hb hml hown hE hS hl.1 cyX6_active tw715 hM ⟨Nat.le_refl _, Nat.le_refl _⟩ ⟨(Nat.zero_add mc).symm ▸ hmc.1, (Nat.zero_add ms).symm ▸ hmc.2⟩ (x_recv hK hH (id := [0]) hd0 (ci := 6) rfl (by decide) rfl) hH rfl rfl (Nat.le_of_ble_eq_true rfl) dL_case0_46 (fun H locs hP hS => ?_)
  refine W.widen (k := mc') (n := ms') (by omega) (by omega) ?_
  exact x_iret hx hb hr hlocks hS dL_case0_49 rfl (hpp _ hP)

set_option maxHeartbeats 1000000 in
set_option maxRecDepth 100000 in
theorem w_case00_eIO (l : Launch) (g : xG) (dm : List Nat → Prop) (I : xI) (F : xF) (n fr lo : Nat) (y0 : Int32) (hd0 : dm [0]) (hT : xTc l yX6_active (xws yX6_active cX6_active 2 (some FieldType.int)) fr lo g [.ref (ga g [0]), .int y0] (xR g dm I F n) eIO (xG_ g dm I F n) 1 6) : xMl l yL_case0 cL_case0 4 (some FieldType.int) [(0, 49, 108, 19), (50, 63, 108, 19), (64, 69, 108, 19), (70, 75, 108, 19), (76, 81, 108, 19), (82, 95, 108, 19), (96, 101, 108, 19), (102, 107, 108, 19), (0, 49, 113, 98), (50, 63, 113, 98), (64, 69, 113, 98), (70, 75, 113, 98), (76, 81, 113, 98), (82, 95, 113, 98), (96, 101, 113, 98), (102, 107, 113, 98)] (fr + 1) (8 + (2 + 11) + lo) g [.ref (ga g [0]), .int y0, .int 0] (xR g dm I F n) (some (.int (-1001))) (xG_ g dm I F n) 1 6 := by
  refine xMl.of (by decide) (Nat.le_of_ble_eq_true rfl) ?_
  intro P_ e_ s m_ bl_ mt_ cd_ ls hx hb hr hown hlocks hml htab hE hK hts hH hS hl
  have hl : lv_has ls 4 [(0, .ref (ga g [0])), (1, .int y0), (2, .int 0)] := hl
  refine lv_iload_n hx hb dL_case0_0 rfl (lv_at hl 2 rfl) ?_
  refine lv_tableIn (tgt := 44) hx hb dL_case0_1 (by decide) (by decide) rfl (by decide) ?_
  refine lv_aload_n hx hb dL_case0_44 rfl (lv_at hl 0 rfl) ?_
  refine lv_iload_n hx hb dL_case0_45 rfl (lv_at hl 1 rfl) ?_
  refine x_contT (x_VT hx hb hml hown hE hS hl.1 cyX6_active tw715 hT ⟨Nat.le_refl _, Nat.le_refl _⟩ ⟨Nat.le_of_eq (Nat.zero_add _), Nat.le_of_eq (Nat.zero_add _)⟩ (x_recv hK hH (id := [0]) hd0 (ci := 6) rfl (by decide) rfl) hH rfl rfl (Nat.le_of_ble_eq_true rfl) dL_case0_46) hS (fun ce q9 H1 locs1 hp1 hS1 hce hcv hcl => ?_)
  refine x_catch hown hE htab [] ⟨0, 49, 108, 19⟩ [⟨50, 63, 108, 19⟩, ⟨64, 69, 108, 19⟩, ⟨70, 75, 108, 19⟩, ⟨76, 81, 108, 19⟩, ⟨82, 95, 108, 19⟩, ⟨96, 101, 108, 19⟩, ⟨102, 107, 108, 19⟩, ⟨0, 49, 113, 98⟩, ⟨50, 63, 113, 98⟩, ⟨64, 69, 113, 98⟩, ⟨70, 75, 113, 98⟩, ⟨76, 81, 113, 98⟩, ⟨82, 95, 113, 98⟩, ⟨96, 101, 113, 98⟩, ⟨102, 107, 113, 98⟩] rfl (fun z hz => absurd hz List.not_mem_nil) rfl (by decide) tw241 cfIO hce hcv hcl ?_
  refine lv_astore_n (lv' := [(3, .ref q9), (0, .ref (ga g [0])), (1, .int y0), (2, .int 0)]) hx hb dL_case0_108 rfl hl (by decide) rfl (fun ls hl => ?_)
  refine lv_sipush (v := (-1001)) hx hb dL_case0_109 (by decide) ?_
  refine W.widen (k := 1) (n := 6) (by omega) (by omega) ?_
  exact x_iret hx hb hr hlocks hS1 dL_case0_112 rfl hp1

set_option maxHeartbeats 1000000 in
set_option maxRecDepth 100000 in
theorem w_case01 (l : Launch) (g : xG) (dm : List Nat → Prop) (I : xI) (F : xF) (n fr lo mc ms mc' ms' : Nat) (y0 : Int32) (v : Int32) (Post Post' : Heap → Prop) (hv : sBo v) (hd0 : dm [0]) (hmc : mc ≤ mc' ∧ ms ≤ ms') (hpp : ∀ H, Post H → Post' H) (hM : xM l yX6_isOver (xws yX6_isOver cX6_isOver 2 (some FieldType.boolean)) fr lo g [.ref (ga g [0]), .int y0] (xR g dm I F n) (some (.int v)) Post mc ms) : xMl l yL_case0 cL_case0 4 (some FieldType.int) [(0, 49, 108, 19), (50, 63, 108, 19), (64, 69, 108, 19), (70, 75, 108, 19), (76, 81, 108, 19), (82, 95, 108, 19), (96, 101, 108, 19), (102, 107, 108, 19), (0, 49, 113, 98), (50, 63, 113, 98), (64, 69, 113, 98), (70, 75, 113, 98), (76, 81, 113, 98), (82, 95, 113, 98), (96, 101, 113, 98), (102, 107, 113, 98)] (fr + 1) (8 + (2 + 11) + lo) g [.ref (ga g [0]), .int y0, .int 1] (xR g dm I F n) (some (.int v)) Post' mc' ms' := by
  refine xMl.of (by decide) (Nat.le_of_ble_eq_true rfl) ?_
  intro P_ e_ s m_ bl_ mt_ cd_ ls hx hb hr hown hlocks hml htab hE hK hts hH hS hl
  have hl : lv_has ls 4 [(0, .ref (ga g [0])), (1, .int y0), (2, .int 1)] := hl
  refine lv_iload_n hx hb dL_case0_0 rfl (lv_at hl 2 rfl) ?_
  refine lv_tableIn (tgt := 50) hx hb dL_case0_1 (by decide) (by decide) rfl (by decide) ?_
  refine lv_aload_n hx hb dL_case0_50 rfl (lv_at hl 0 rfl) ?_
  refine lv_iload_n hx hb dL_case0_51 rfl (lv_at hl 1 rfl) ?_
  refine x_V1 hx hb hml hown hE hS hl.1 cyX6_isOver tw723 hM ⟨Nat.le_refl _, Nat.le_refl _⟩ ⟨(Nat.zero_add mc).symm ▸ hmc.1, (Nat.zero_add ms).symm ▸ hmc.2⟩ (x_recv hK hH (id := [0]) hd0 (ci := 6) rfl (by decide) rfl) hH rfl rfl (Nat.le_of_ble_eq_true rfl) dL_case0_52 (fun H locs hP hS => ?_)
  rcases hv with hv | hv
  · refine lv_if_eq (tgt := 62) hx hb dL_case0_55 (by decide) (fun _ => ?_) (fun q_ => absurd hv q_)
    refine lv_iconst (v := 0) hx hb dL_case0_62 (by decide) ?_
    refine W.widen (k := mc') (n := ms') (by omega) (by omega) ?_
    exact x_iret hx hb hr hlocks hS dL_case0_63 hv.symm (hpp _ hP)
  · refine lv_if_eq (tgt := 62) hx hb dL_case0_55 (by decide) (fun q_ => absurd q_ (by rw [hv]; decide)) (fun _ => ?_)
    refine lv_iconst (v := 1) hx hb dL_case0_58 (by decide) ?_
    refine lv_goto (tgt := 63) hx hb dL_case0_59 (by decide) ?_
    refine W.widen (k := mc') (n := ms') (by omega) (by omega) ?_
    exact x_iret hx hb hr hlocks hS dL_case0_63 hv.symm (hpp _ hP)

set_option maxHeartbeats 1000000 in
set_option maxRecDepth 100000 in
theorem w_case01_eIO (l : Launch) (g : xG) (dm : List Nat → Prop) (I : xI) (F : xF) (n fr lo : Nat) (y0 : Int32) (hd0 : dm [0]) (hT : xTc l yX6_isOver (xws yX6_isOver cX6_isOver 2 (some FieldType.boolean)) fr lo g [.ref (ga g [0]), .int y0] (xR g dm I F n) eIO (xG_ g dm I F n) 1 6) : xMl l yL_case0 cL_case0 4 (some FieldType.int) [(0, 49, 108, 19), (50, 63, 108, 19), (64, 69, 108, 19), (70, 75, 108, 19), (76, 81, 108, 19), (82, 95, 108, 19), (96, 101, 108, 19), (102, 107, 108, 19), (0, 49, 113, 98), (50, 63, 113, 98), (64, 69, 113, 98), (70, 75, 113, 98), (76, 81, 113, 98), (82, 95, 113, 98), (96, 101, 113, 98), (102, 107, 113, 98)] (fr + 1) (8 + (2 + 11) + lo) g [.ref (ga g [0]), .int y0, .int 1] (xR g dm I F n) (some (.int (-1001))) (xG_ g dm I F n) 1 6 := by
  refine xMl.of (by decide) (Nat.le_of_ble_eq_true rfl) ?_
  intro P_ e_ s m_ bl_ mt_ cd_ ls hx hb hr hown hlocks hml htab hE hK hts hH hS hl
  have hl : lv_has ls 4 [(0, .ref (ga g [0])), (1, .int y0), (2, .int 1)] := hl
  refine lv_iload_n hx hb dL_case0_0 rfl (lv_at hl 2 rfl) ?_
  refine lv_tableIn (tgt := 50) hx hb dL_case0_1 (by decide) (by decide) rfl (by decide) ?_
  refine lv_aload_n hx hb dL_case0_50 rfl (lv_at hl 0 rfl) ?_
  refine lv_iload_n hx hb dL_case0_51 rfl (lv_at hl 1 rfl) ?_
  refine x_contT (x_VT hx hb hml hown hE hS hl.1 cyX6_isOver tw723 hT ⟨Nat.le_refl _, Nat.le_refl _⟩ ⟨Nat.le_of_eq (Nat.zero_add _), Nat.le_of_eq (Nat.zero_add _)⟩ (x_recv hK hH (id := [0]) hd0 (ci := 6) rfl (by decide) rfl) hH rfl rfl (Nat.le_of_ble_eq_true rfl) dL_case0_52) hS (fun ce q9 H1 locs1 hp1 hS1 hce hcv hcl => ?_)
  refine x_catch hown hE htab [⟨0, 49, 108, 19⟩] ⟨50, 63, 108, 19⟩ [⟨64, 69, 108, 19⟩, ⟨70, 75, 108, 19⟩, ⟨76, 81, 108, 19⟩, ⟨82, 95, 108, 19⟩, ⟨96, 101, 108, 19⟩, ⟨102, 107, 108, 19⟩, ⟨0, 49, 113, 98⟩, ⟨50, 63, 113, 98⟩, ⟨64, 69, 113, 98⟩, ⟨70, 75, 113, 98⟩, ⟨76, 81, 113, 98⟩, ⟨82, 95, 113, 98⟩, ⟨96, 101, 113, 98⟩, ⟨102, 107, 113, 98⟩] rfl (fun z hz => by
        simp only [List.mem_cons, List.not_mem_nil, or_false] at hz
        rcases hz with rfl
        exact Or.inl rfl) rfl (by decide) tw241 cfIO hce hcv hcl ?_
  refine lv_astore_n (lv' := [(3, .ref q9), (0, .ref (ga g [0])), (1, .int y0), (2, .int 1)]) hx hb dL_case0_108 rfl hl (by decide) rfl (fun ls hl => ?_)
  refine lv_sipush (v := (-1001)) hx hb dL_case0_109 (by decide) ?_
  refine W.widen (k := 1) (n := 6) (by omega) (by omega) ?_
  exact x_iret hx hb hr hlocks hS1 dL_case0_112 rfl hp1

set_option maxHeartbeats 1000000 in
set_option maxRecDepth 100000 in
theorem w_case02 (l : Launch) (g : xG) (dm : List Nat → Prop) (I : xI) (F : xF) (n fr lo mc ms mc' ms' : Nat) (y0 : Int32) (v : Int32) (Post Post' : Heap → Prop) (hd0 : dm [0]) (hmc : mc ≤ mc' ∧ ms ≤ ms') (hpp : ∀ H, Post H → Post' H) (hM : xM l yX6_rounds (xws yX6_rounds cX6_rounds 2 (some FieldType.int)) fr lo g [.ref (ga g [0]), .int y0] (xR g dm I F n) (some (.int v)) Post mc ms) : xMl l yL_case0 cL_case0 4 (some FieldType.int) [(0, 49, 108, 19), (50, 63, 108, 19), (64, 69, 108, 19), (70, 75, 108, 19), (76, 81, 108, 19), (82, 95, 108, 19), (96, 101, 108, 19), (102, 107, 108, 19), (0, 49, 113, 98), (50, 63, 113, 98), (64, 69, 113, 98), (70, 75, 113, 98), (76, 81, 113, 98), (82, 95, 113, 98), (96, 101, 113, 98), (102, 107, 113, 98)] (fr + 1) (8 + (2 + 11) + lo) g [.ref (ga g [0]), .int y0, .int 2] (xR g dm I F n) (some (.int v)) Post' mc' ms' := by
  refine xMl.of (by decide) (Nat.le_of_ble_eq_true rfl) ?_
  intro P_ e_ s m_ bl_ mt_ cd_ ls hx hb hr hown hlocks hml htab hE hK hts hH hS hl
  have hl : lv_has ls 4 [(0, .ref (ga g [0])), (1, .int y0), (2, .int 2)] := hl
  refine lv_iload_n hx hb dL_case0_0 rfl (lv_at hl 2 rfl) ?_
  refine lv_tableIn (tgt := 64) hx hb dL_case0_1 (by decide) (by decide) rfl (by decide) ?_
  refine lv_aload_n hx hb dL_case0_64 rfl (lv_at hl 0 rfl) ?_
  refine lv_iload_n hx hb dL_case0_65 rfl (lv_at hl 1 rfl) ?_
  refine x_V1 hx hb hml hown hE hS hl.1 cyX6_rounds tw731 hM ⟨Nat.le_refl _, Nat.le_refl _⟩ ⟨(Nat.zero_add mc).symm ▸ hmc.1, (Nat.zero_add ms).symm ▸ hmc.2⟩ (x_recv hK hH (id := [0]) hd0 (ci := 6) rfl (by decide) rfl) hH rfl rfl (Nat.le_of_ble_eq_true rfl) dL_case0_66 (fun H locs hP hS => ?_)
  refine W.widen (k := mc') (n := ms') (by omega) (by omega) ?_
  exact x_iret hx hb hr hlocks hS dL_case0_69 rfl (hpp _ hP)

set_option maxHeartbeats 1000000 in
set_option maxRecDepth 100000 in
theorem w_case02_eIO (l : Launch) (g : xG) (dm : List Nat → Prop) (I : xI) (F : xF) (n fr lo : Nat) (y0 : Int32) (hd0 : dm [0]) (hT : xTc l yX6_rounds (xws yX6_rounds cX6_rounds 2 (some FieldType.int)) fr lo g [.ref (ga g [0]), .int y0] (xR g dm I F n) eIO (xG_ g dm I F n) 1 6) : xMl l yL_case0 cL_case0 4 (some FieldType.int) [(0, 49, 108, 19), (50, 63, 108, 19), (64, 69, 108, 19), (70, 75, 108, 19), (76, 81, 108, 19), (82, 95, 108, 19), (96, 101, 108, 19), (102, 107, 108, 19), (0, 49, 113, 98), (50, 63, 113, 98), (64, 69, 113, 98), (70, 75, 113, 98), (76, 81, 113, 98), (82, 95, 113, 98), (96, 101, 113, 98), (102, 107, 113, 98)] (fr + 1) (8 + (2 + 11) + lo) g [.ref (ga g [0]), .int y0, .int 2] (xR g dm I F n) (some (.int (-1001))) (xG_ g dm I F n) 1 6 := by
  refine xMl.of (by decide) (Nat.le_of_ble_eq_true rfl) ?_
  intro P_ e_ s m_ bl_ mt_ cd_ ls hx hb hr hown hlocks hml htab hE hK hts hH hS hl
  have hl : lv_has ls 4 [(0, .ref (ga g [0])), (1, .int y0), (2, .int 2)] := hl
  refine lv_iload_n hx hb dL_case0_0 rfl (lv_at hl 2 rfl) ?_
  refine lv_tableIn (tgt := 64) hx hb dL_case0_1 (by decide) (by decide) rfl (by decide) ?_
  refine lv_aload_n hx hb dL_case0_64 rfl (lv_at hl 0 rfl) ?_
  refine lv_iload_n hx hb dL_case0_65 rfl (lv_at hl 1 rfl) ?_
  refine x_contT (x_VT hx hb hml hown hE hS hl.1 cyX6_rounds tw731 hT ⟨Nat.le_refl _, Nat.le_refl _⟩ ⟨Nat.le_of_eq (Nat.zero_add _), Nat.le_of_eq (Nat.zero_add _)⟩ (x_recv hK hH (id := [0]) hd0 (ci := 6) rfl (by decide) rfl) hH rfl rfl (Nat.le_of_ble_eq_true rfl) dL_case0_66) hS (fun ce q9 H1 locs1 hp1 hS1 hce hcv hcl => ?_)
  refine x_catch hown hE htab [⟨0, 49, 108, 19⟩, ⟨50, 63, 108, 19⟩] ⟨64, 69, 108, 19⟩ [⟨70, 75, 108, 19⟩, ⟨76, 81, 108, 19⟩, ⟨82, 95, 108, 19⟩, ⟨96, 101, 108, 19⟩, ⟨102, 107, 108, 19⟩, ⟨0, 49, 113, 98⟩, ⟨50, 63, 113, 98⟩, ⟨64, 69, 113, 98⟩, ⟨70, 75, 113, 98⟩, ⟨76, 81, 113, 98⟩, ⟨82, 95, 113, 98⟩, ⟨96, 101, 113, 98⟩, ⟨102, 107, 113, 98⟩] rfl (fun z hz => by
        simp only [List.mem_cons, List.not_mem_nil, or_false] at hz
        rcases hz with rfl | rfl
        · exact Or.inl rfl
        · exact Or.inl rfl) rfl (by decide) tw241 cfIO hce hcv hcl ?_
  refine lv_astore_n (lv' := [(3, .ref q9), (0, .ref (ga g [0])), (1, .int y0), (2, .int 2)]) hx hb dL_case0_108 rfl hl (by decide) rfl (fun ls hl => ?_)
  refine lv_sipush (v := (-1001)) hx hb dL_case0_109 (by decide) ?_
  refine W.widen (k := 1) (n := 6) (by omega) (by omega) ?_
  exact x_iret hx hb hr hlocks hS1 dL_case0_112 rfl hp1

set_option maxHeartbeats 1000000 in
set_option maxRecDepth 100000 in
theorem w_case03 (l : Launch) (g : xG) (dm : List Nat → Prop) (I : xI) (F : xF) (n fr lo mc ms mc' ms' : Nat) (y0 : Int32) (v : Int32) (Post Post' : Heap → Prop) (hd0 : dm [0]) (hmc : mc ≤ mc' ∧ ms ≤ ms') (hpp : ∀ H, Post H → Post' H) (hM : xM l yX6_days (xws yX6_days cX6_days 2 (some FieldType.int)) fr lo g [.ref (ga g [0]), .int y0] (xR g dm I F n) (some (.int v)) Post mc ms) : xMl l yL_case0 cL_case0 4 (some FieldType.int) [(0, 49, 108, 19), (50, 63, 108, 19), (64, 69, 108, 19), (70, 75, 108, 19), (76, 81, 108, 19), (82, 95, 108, 19), (96, 101, 108, 19), (102, 107, 108, 19), (0, 49, 113, 98), (50, 63, 113, 98), (64, 69, 113, 98), (70, 75, 113, 98), (76, 81, 113, 98), (82, 95, 113, 98), (96, 101, 113, 98), (102, 107, 113, 98)] (fr + 1) (8 + (2 + 11) + lo) g [.ref (ga g [0]), .int y0, .int 3] (xR g dm I F n) (some (.int v)) Post' mc' ms' := by
  refine xMl.of (by decide) (Nat.le_of_ble_eq_true rfl) ?_
  intro P_ e_ s m_ bl_ mt_ cd_ ls hx hb hr hown hlocks hml htab hE hK hts hH hS hl
  have hl : lv_has ls 4 [(0, .ref (ga g [0])), (1, .int y0), (2, .int 3)] := hl
  refine lv_iload_n hx hb dL_case0_0 rfl (lv_at hl 2 rfl) ?_
  refine lv_tableIn (tgt := 70) hx hb dL_case0_1 (by decide) (by decide) rfl (by decide) ?_
  refine lv_aload_n hx hb dL_case0_70 rfl (lv_at hl 0 rfl) ?_
  refine lv_iload_n hx hb dL_case0_71 rfl (lv_at hl 1 rfl) ?_
  refine x_V1 hx hb hml hown hE hS hl.1 cyX6_days tw735 hM ⟨Nat.le_refl _, Nat.le_refl _⟩ ⟨(Nat.zero_add mc).symm ▸ hmc.1, (Nat.zero_add ms).symm ▸ hmc.2⟩ (x_recv hK hH (id := [0]) hd0 (ci := 6) rfl (by decide) rfl) hH rfl rfl (Nat.le_of_ble_eq_true rfl) dL_case0_72 (fun H locs hP hS => ?_)
  refine W.widen (k := mc') (n := ms') (by omega) (by omega) ?_
  exact x_iret hx hb hr hlocks hS dL_case0_75 rfl (hpp _ hP)

set_option maxHeartbeats 1000000 in
set_option maxRecDepth 100000 in
theorem w_case03_eIO (l : Launch) (g : xG) (dm : List Nat → Prop) (I : xI) (F : xF) (n fr lo : Nat) (y0 : Int32) (hd0 : dm [0]) (hT : xTc l yX6_days (xws yX6_days cX6_days 2 (some FieldType.int)) fr lo g [.ref (ga g [0]), .int y0] (xR g dm I F n) eIO (xG_ g dm I F n) 1 6) : xMl l yL_case0 cL_case0 4 (some FieldType.int) [(0, 49, 108, 19), (50, 63, 108, 19), (64, 69, 108, 19), (70, 75, 108, 19), (76, 81, 108, 19), (82, 95, 108, 19), (96, 101, 108, 19), (102, 107, 108, 19), (0, 49, 113, 98), (50, 63, 113, 98), (64, 69, 113, 98), (70, 75, 113, 98), (76, 81, 113, 98), (82, 95, 113, 98), (96, 101, 113, 98), (102, 107, 113, 98)] (fr + 1) (8 + (2 + 11) + lo) g [.ref (ga g [0]), .int y0, .int 3] (xR g dm I F n) (some (.int (-1001))) (xG_ g dm I F n) 1 6 := by
  refine xMl.of (by decide) (Nat.le_of_ble_eq_true rfl) ?_
  intro P_ e_ s m_ bl_ mt_ cd_ ls hx hb hr hown hlocks hml htab hE hK hts hH hS hl
  have hl : lv_has ls 4 [(0, .ref (ga g [0])), (1, .int y0), (2, .int 3)] := hl
  refine lv_iload_n hx hb dL_case0_0 rfl (lv_at hl 2 rfl) ?_
  refine lv_tableIn (tgt := 70) hx hb dL_case0_1 (by decide) (by decide) rfl (by decide) ?_
  refine lv_aload_n hx hb dL_case0_70 rfl (lv_at hl 0 rfl) ?_
  refine lv_iload_n hx hb dL_case0_71 rfl (lv_at hl 1 rfl) ?_
  refine x_contT (x_VT hx hb hml hown hE hS hl.1 cyX6_days tw735 hT ⟨Nat.le_refl _, Nat.le_refl _⟩ ⟨Nat.le_of_eq (Nat.zero_add _), Nat.le_of_eq (Nat.zero_add _)⟩ (x_recv hK hH (id := [0]) hd0 (ci := 6) rfl (by decide) rfl) hH rfl rfl (Nat.le_of_ble_eq_true rfl) dL_case0_72) hS (fun ce q9 H1 locs1 hp1 hS1 hce hcv hcl => ?_)
  refine x_catch hown hE htab [⟨0, 49, 108, 19⟩, ⟨50, 63, 108, 19⟩, ⟨64, 69, 108, 19⟩] ⟨70, 75, 108, 19⟩ [⟨76, 81, 108, 19⟩, ⟨82, 95, 108, 19⟩, ⟨96, 101, 108, 19⟩, ⟨102, 107, 108, 19⟩, ⟨0, 49, 113, 98⟩, ⟨50, 63, 113, 98⟩, ⟨64, 69, 113, 98⟩, ⟨70, 75, 113, 98⟩, ⟨76, 81, 113, 98⟩, ⟨82, 95, 113, 98⟩, ⟨96, 101, 113, 98⟩, ⟨102, 107, 113, 98⟩] rfl (fun z hz => by
        simp only [List.mem_cons, List.not_mem_nil, or_false] at hz
        rcases hz with rfl | rfl | rfl
        · exact Or.inl rfl
        · exact Or.inl rfl
        · exact Or.inl rfl) rfl (by decide) tw241 cfIO hce hcv hcl ?_
  refine lv_astore_n (lv' := [(3, .ref q9), (0, .ref (ga g [0])), (1, .int y0), (2, .int 3)]) hx hb dL_case0_108 rfl hl (by decide) rfl (fun ls hl => ?_)
  refine lv_sipush (v := (-1001)) hx hb dL_case0_109 (by decide) ?_
  refine W.widen (k := 1) (n := 6) (by omega) (by omega) ?_
  exact x_iret hx hb hr hlocks hS1 dL_case0_112 rfl hp1

set_option maxHeartbeats 1000000 in
set_option maxRecDepth 100000 in
theorem w_case04 (l : Launch) (g : xG) (dm : List Nat → Prop) (I : xI) (F : xF) (n fr lo mc ms mc' ms' : Nat) (y0 : Int32) (v : Int32) (Post Post' : Heap → Prop) (hd0 : dm [0]) (hmc : mc ≤ mc' ∧ ms ≤ ms') (hpp : ∀ H, Post H → Post' H) (hM : xM l yX6_planOf (xws yX6_planOf cX6_planOf 2 (some FieldType.int)) fr lo g [.ref (ga g [0]), .int y0] (xR g dm I F n) (some (.int v)) Post mc ms) : xMl l yL_case0 cL_case0 4 (some FieldType.int) [(0, 49, 108, 19), (50, 63, 108, 19), (64, 69, 108, 19), (70, 75, 108, 19), (76, 81, 108, 19), (82, 95, 108, 19), (96, 101, 108, 19), (102, 107, 108, 19), (0, 49, 113, 98), (50, 63, 113, 98), (64, 69, 113, 98), (70, 75, 113, 98), (76, 81, 113, 98), (82, 95, 113, 98), (96, 101, 113, 98), (102, 107, 113, 98)] (fr + 1) (8 + (2 + 11) + lo) g [.ref (ga g [0]), .int y0, .int 4] (xR g dm I F n) (some (.int v)) Post' mc' ms' := by
  refine xMl.of (by decide) (Nat.le_of_ble_eq_true rfl) ?_
  intro P_ e_ s m_ bl_ mt_ cd_ ls hx hb hr hown hlocks hml htab hE hK hts hH hS hl
  have hl : lv_has ls 4 [(0, .ref (ga g [0])), (1, .int y0), (2, .int 4)] := hl
  refine lv_iload_n hx hb dL_case0_0 rfl (lv_at hl 2 rfl) ?_
  refine lv_tableIn (tgt := 76) hx hb dL_case0_1 (by decide) (by decide) rfl (by decide) ?_
  refine lv_aload_n hx hb dL_case0_76 rfl (lv_at hl 0 rfl) ?_
  refine lv_iload_n hx hb dL_case0_77 rfl (lv_at hl 1 rfl) ?_
  refine x_V1 hx hb hml hown hE hS hl.1 cyX6_planOf tw739 hM ⟨Nat.le_refl _, Nat.le_refl _⟩ ⟨(Nat.zero_add mc).symm ▸ hmc.1, (Nat.zero_add ms).symm ▸ hmc.2⟩ (x_recv hK hH (id := [0]) hd0 (ci := 6) rfl (by decide) rfl) hH rfl rfl (Nat.le_of_ble_eq_true rfl) dL_case0_78 (fun H locs hP hS => ?_)
  refine W.widen (k := mc') (n := ms') (by omega) (by omega) ?_
  exact x_iret hx hb hr hlocks hS dL_case0_81 rfl (hpp _ hP)

set_option maxHeartbeats 1000000 in
set_option maxRecDepth 100000 in
theorem w_case04_eIO (l : Launch) (g : xG) (dm : List Nat → Prop) (I : xI) (F : xF) (n fr lo : Nat) (y0 : Int32) (hd0 : dm [0]) (hT : xTc l yX6_planOf (xws yX6_planOf cX6_planOf 2 (some FieldType.int)) fr lo g [.ref (ga g [0]), .int y0] (xR g dm I F n) eIO (xG_ g dm I F n) 1 6) : xMl l yL_case0 cL_case0 4 (some FieldType.int) [(0, 49, 108, 19), (50, 63, 108, 19), (64, 69, 108, 19), (70, 75, 108, 19), (76, 81, 108, 19), (82, 95, 108, 19), (96, 101, 108, 19), (102, 107, 108, 19), (0, 49, 113, 98), (50, 63, 113, 98), (64, 69, 113, 98), (70, 75, 113, 98), (76, 81, 113, 98), (82, 95, 113, 98), (96, 101, 113, 98), (102, 107, 113, 98)] (fr + 1) (8 + (2 + 11) + lo) g [.ref (ga g [0]), .int y0, .int 4] (xR g dm I F n) (some (.int (-1001))) (xG_ g dm I F n) 1 6 := by
  refine xMl.of (by decide) (Nat.le_of_ble_eq_true rfl) ?_
  intro P_ e_ s m_ bl_ mt_ cd_ ls hx hb hr hown hlocks hml htab hE hK hts hH hS hl
  have hl : lv_has ls 4 [(0, .ref (ga g [0])), (1, .int y0), (2, .int 4)] := hl
  refine lv_iload_n hx hb dL_case0_0 rfl (lv_at hl 2 rfl) ?_
  refine lv_tableIn (tgt := 76) hx hb dL_case0_1 (by decide) (by decide) rfl (by decide) ?_
  refine lv_aload_n hx hb dL_case0_76 rfl (lv_at hl 0 rfl) ?_
  refine lv_iload_n hx hb dL_case0_77 rfl (lv_at hl 1 rfl) ?_
  refine x_contT (x_VT hx hb hml hown hE hS hl.1 cyX6_planOf tw739 hT ⟨Nat.le_refl _, Nat.le_refl _⟩ ⟨Nat.le_of_eq (Nat.zero_add _), Nat.le_of_eq (Nat.zero_add _)⟩ (x_recv hK hH (id := [0]) hd0 (ci := 6) rfl (by decide) rfl) hH rfl rfl (Nat.le_of_ble_eq_true rfl) dL_case0_78) hS (fun ce q9 H1 locs1 hp1 hS1 hce hcv hcl => ?_)
  refine x_catch hown hE htab [⟨0, 49, 108, 19⟩, ⟨50, 63, 108, 19⟩, ⟨64, 69, 108, 19⟩, ⟨70, 75, 108, 19⟩] ⟨76, 81, 108, 19⟩ [⟨82, 95, 108, 19⟩, ⟨96, 101, 108, 19⟩, ⟨102, 107, 108, 19⟩, ⟨0, 49, 113, 98⟩, ⟨50, 63, 113, 98⟩, ⟨64, 69, 113, 98⟩, ⟨70, 75, 113, 98⟩, ⟨76, 81, 113, 98⟩, ⟨82, 95, 113, 98⟩, ⟨96, 101, 113, 98⟩, ⟨102, 107, 113, 98⟩] rfl (fun z hz => by
        simp only [List.mem_cons, List.not_mem_nil, or_false] at hz
        rcases hz with rfl | rfl | rfl | rfl
        · exact Or.inl rfl
        · exact Or.inl rfl
        · exact Or.inl rfl
        · exact Or.inl rfl) rfl (by decide) tw241 cfIO hce hcv hcl ?_
  refine lv_astore_n (lv' := [(3, .ref q9), (0, .ref (ga g [0])), (1, .int y0), (2, .int 4)]) hx hb dL_case0_108 rfl hl (by decide) rfl (fun ls hl => ?_)
  refine lv_sipush (v := (-1001)) hx hb dL_case0_109 (by decide) ?_
  refine W.widen (k := 1) (n := 6) (by omega) (by omega) ?_
  exact x_iret hx hb hr hlocks hS1 dL_case0_112 rfl hp1

set_option maxHeartbeats 1000000 in
set_option maxRecDepth 100000 in
theorem w_case05 (l : Launch) (g : xG) (dm : List Nat → Prop) (I : xI) (F : xF) (n fr lo mc ms mc' ms' : Nat) (y0 : Int32) (v : Int32) (Post Post' : Heap → Prop) (hv : sBo v) (hd0 : dm [0]) (hmc : mc ≤ mc' ∧ ms ≤ ms') (hpp : ∀ H, Post H → Post' H) (hM : xM l yX6_isWaiting (xws yX6_isWaiting cX6_isWaiting 2 (some FieldType.boolean)) fr lo g [.ref (ga g [0]), .int y0] (xR g dm I F n) (some (.int v)) Post mc ms) : xMl l yL_case0 cL_case0 4 (some FieldType.int) [(0, 49, 108, 19), (50, 63, 108, 19), (64, 69, 108, 19), (70, 75, 108, 19), (76, 81, 108, 19), (82, 95, 108, 19), (96, 101, 108, 19), (102, 107, 108, 19), (0, 49, 113, 98), (50, 63, 113, 98), (64, 69, 113, 98), (70, 75, 113, 98), (76, 81, 113, 98), (82, 95, 113, 98), (96, 101, 113, 98), (102, 107, 113, 98)] (fr + 1) (8 + (2 + 11) + lo) g [.ref (ga g [0]), .int y0, .int 5] (xR g dm I F n) (some (.int v)) Post' mc' ms' := by
  refine xMl.of (by decide) (Nat.le_of_ble_eq_true rfl) ?_
  intro P_ e_ s m_ bl_ mt_ cd_ ls hx hb hr hown hlocks hml htab hE hK hts hH hS hl
  have hl : lv_has ls 4 [(0, .ref (ga g [0])), (1, .int y0), (2, .int 5)] := hl
  refine lv_iload_n hx hb dL_case0_0 rfl (lv_at hl 2 rfl) ?_
  refine lv_tableIn (tgt := 82) hx hb dL_case0_1 (by decide) (by decide) rfl (by decide) ?_
  refine lv_aload_n hx hb dL_case0_82 rfl (lv_at hl 0 rfl) ?_
  refine lv_iload_n hx hb dL_case0_83 rfl (lv_at hl 1 rfl) ?_
  refine x_V1 hx hb hml hown hE hS hl.1 cyX6_isWaiting tw743 hM ⟨Nat.le_refl _, Nat.le_refl _⟩ ⟨(Nat.zero_add mc).symm ▸ hmc.1, (Nat.zero_add ms).symm ▸ hmc.2⟩ (x_recv hK hH (id := [0]) hd0 (ci := 6) rfl (by decide) rfl) hH rfl rfl (Nat.le_of_ble_eq_true rfl) dL_case0_84 (fun H locs hP hS => ?_)
  rcases hv with hv | hv
  · refine lv_if_eq (tgt := 94) hx hb dL_case0_87 (by decide) (fun _ => ?_) (fun q_ => absurd hv q_)
    refine lv_iconst (v := 0) hx hb dL_case0_94 (by decide) ?_
    refine W.widen (k := mc') (n := ms') (by omega) (by omega) ?_
    exact x_iret hx hb hr hlocks hS dL_case0_95 hv.symm (hpp _ hP)
  · refine lv_if_eq (tgt := 94) hx hb dL_case0_87 (by decide) (fun q_ => absurd q_ (by rw [hv]; decide)) (fun _ => ?_)
    refine lv_iconst (v := 1) hx hb dL_case0_90 (by decide) ?_
    refine lv_goto (tgt := 95) hx hb dL_case0_91 (by decide) ?_
    refine W.widen (k := mc') (n := ms') (by omega) (by omega) ?_
    exact x_iret hx hb hr hlocks hS dL_case0_95 hv.symm (hpp _ hP)

set_option maxHeartbeats 1000000 in
set_option maxRecDepth 100000 in
theorem w_case05_eIO (l : Launch) (g : xG) (dm : List Nat → Prop) (I : xI) (F : xF) (n fr lo : Nat) (y0 : Int32) (hd0 : dm [0]) (hT : xTc l yX6_isWaiting (xws yX6_isWaiting cX6_isWaiting 2 (some FieldType.boolean)) fr lo g [.ref (ga g [0]), .int y0] (xR g dm I F n) eIO (xG_ g dm I F n) 1 6) : xMl l yL_case0 cL_case0 4 (some FieldType.int) [(0, 49, 108, 19), (50, 63, 108, 19), (64, 69, 108, 19), (70, 75, 108, 19), (76, 81, 108, 19), (82, 95, 108, 19), (96, 101, 108, 19), (102, 107, 108, 19), (0, 49, 113, 98), (50, 63, 113, 98), (64, 69, 113, 98), (70, 75, 113, 98), (76, 81, 113, 98), (82, 95, 113, 98), (96, 101, 113, 98), (102, 107, 113, 98)] (fr + 1) (8 + (2 + 11) + lo) g [.ref (ga g [0]), .int y0, .int 5] (xR g dm I F n) (some (.int (-1001))) (xG_ g dm I F n) 1 6 := by
  refine xMl.of (by decide) (Nat.le_of_ble_eq_true rfl) ?_
  intro P_ e_ s m_ bl_ mt_ cd_ ls hx hb hr hown hlocks hml htab hE hK hts hH hS hl
  have hl : lv_has ls 4 [(0, .ref (ga g [0])), (1, .int y0), (2, .int 5)] := hl
  refine lv_iload_n hx hb dL_case0_0 rfl (lv_at hl 2 rfl) ?_
  refine lv_tableIn (tgt := 82) hx hb dL_case0_1 (by decide) (by decide) rfl (by decide) ?_
  refine lv_aload_n hx hb dL_case0_82 rfl (lv_at hl 0 rfl) ?_
  refine lv_iload_n hx hb dL_case0_83 rfl (lv_at hl 1 rfl) ?_
  refine x_contT (x_VT hx hb hml hown hE hS hl.1 cyX6_isWaiting tw743 hT ⟨Nat.le_refl _, Nat.le_refl _⟩ ⟨Nat.le_of_eq (Nat.zero_add _), Nat.le_of_eq (Nat.zero_add _)⟩ (x_recv hK hH (id := [0]) hd0 (ci := 6) rfl (by decide) rfl) hH rfl rfl (Nat.le_of_ble_eq_true rfl) dL_case0_84) hS (fun ce q9 H1 locs1 hp1 hS1 hce hcv hcl => ?_)
  refine x_catch hown hE htab [⟨0, 49, 108, 19⟩, ⟨50, 63, 108, 19⟩, ⟨64, 69, 108, 19⟩, ⟨70, 75, 108, 19⟩, ⟨76, 81, 108, 19⟩] ⟨82, 95, 108, 19⟩ [⟨96, 101, 108, 19⟩, ⟨102, 107, 108, 19⟩, ⟨0, 49, 113, 98⟩, ⟨50, 63, 113, 98⟩, ⟨64, 69, 113, 98⟩, ⟨70, 75, 113, 98⟩, ⟨76, 81, 113, 98⟩, ⟨82, 95, 113, 98⟩, ⟨96, 101, 113, 98⟩, ⟨102, 107, 113, 98⟩] rfl (fun z hz => by
        simp only [List.mem_cons, List.not_mem_nil, or_false] at hz
        rcases hz with rfl | rfl | rfl | rfl | rfl
        · exact Or.inl rfl
        · exact Or.inl rfl
        · exact Or.inl rfl
        · exact Or.inl rfl
        · exact Or.inl rfl) rfl (by decide) tw241 cfIO hce hcv hcl ?_
  refine lv_astore_n (lv' := [(3, .ref q9), (0, .ref (ga g [0])), (1, .int y0), (2, .int 5)]) hx hb dL_case0_108 rfl hl (by decide) rfl (fun ls hl => ?_)
  refine lv_sipush (v := (-1001)) hx hb dL_case0_109 (by decide) ?_
  refine W.widen (k := 1) (n := 6) (by omega) (by omega) ?_
  exact x_iret hx hb hr hlocks hS1 dL_case0_112 rfl hp1

set_option maxHeartbeats 1000000 in
set_option maxRecDepth 100000 in
theorem w_case06 (l : Launch) (g : xG) (dm : List Nat → Prop) (I : xI) (F : xF) (n fr lo mc ms mc' ms' : Nat) (y0 : Int32) (v : Int32) (Post Post' : Heap → Prop) (hd0 : dm [0]) (hmc : mc ≤ mc' ∧ ms ≤ ms') (hpp : ∀ H, Post H → Post' H) (hM : xM l yX6_happened (xws yX6_happened cX6_happened 2 (some FieldType.int)) fr lo g [.ref (ga g [0]), .int y0] (xR g dm I F n) (some (.int v)) Post mc ms) : xMl l yL_case0 cL_case0 4 (some FieldType.int) [(0, 49, 108, 19), (50, 63, 108, 19), (64, 69, 108, 19), (70, 75, 108, 19), (76, 81, 108, 19), (82, 95, 108, 19), (96, 101, 108, 19), (102, 107, 108, 19), (0, 49, 113, 98), (50, 63, 113, 98), (64, 69, 113, 98), (70, 75, 113, 98), (76, 81, 113, 98), (82, 95, 113, 98), (96, 101, 113, 98), (102, 107, 113, 98)] (fr + 1) (8 + (2 + 11) + lo) g [.ref (ga g [0]), .int y0, .int 6] (xR g dm I F n) (some (.int v)) Post' mc' ms' := by
  refine xMl.of (by decide) (Nat.le_of_ble_eq_true rfl) ?_
  intro P_ e_ s m_ bl_ mt_ cd_ ls hx hb hr hown hlocks hml htab hE hK hts hH hS hl
  have hl : lv_has ls 4 [(0, .ref (ga g [0])), (1, .int y0), (2, .int 6)] := hl
  refine lv_iload_n hx hb dL_case0_0 rfl (lv_at hl 2 rfl) ?_
  refine lv_tableIn (tgt := 96) hx hb dL_case0_1 (by decide) (by decide) rfl (by decide) ?_
  refine lv_aload_n hx hb dL_case0_96 rfl (lv_at hl 0 rfl) ?_
  refine lv_iload_n hx hb dL_case0_97 rfl (lv_at hl 1 rfl) ?_
  refine x_V1 hx hb hml hown hE hS hl.1 cyX6_happened tw747 hM ⟨Nat.le_refl _, Nat.le_refl _⟩ ⟨(Nat.zero_add mc).symm ▸ hmc.1, (Nat.zero_add ms).symm ▸ hmc.2⟩ (x_recv hK hH (id := [0]) hd0 (ci := 6) rfl (by decide) rfl) hH rfl rfl (Nat.le_of_ble_eq_true rfl) dL_case0_98 (fun H locs hP hS => ?_)
  refine W.widen (k := mc') (n := ms') (by omega) (by omega) ?_
  exact x_iret hx hb hr hlocks hS dL_case0_101 rfl (hpp _ hP)

set_option maxHeartbeats 1000000 in
set_option maxRecDepth 100000 in
theorem w_case06_eIO (l : Launch) (g : xG) (dm : List Nat → Prop) (I : xI) (F : xF) (n fr lo : Nat) (y0 : Int32) (hd0 : dm [0]) (hT : xTc l yX6_happened (xws yX6_happened cX6_happened 2 (some FieldType.int)) fr lo g [.ref (ga g [0]), .int y0] (xR g dm I F n) eIO (xG_ g dm I F n) 1 6) : xMl l yL_case0 cL_case0 4 (some FieldType.int) [(0, 49, 108, 19), (50, 63, 108, 19), (64, 69, 108, 19), (70, 75, 108, 19), (76, 81, 108, 19), (82, 95, 108, 19), (96, 101, 108, 19), (102, 107, 108, 19), (0, 49, 113, 98), (50, 63, 113, 98), (64, 69, 113, 98), (70, 75, 113, 98), (76, 81, 113, 98), (82, 95, 113, 98), (96, 101, 113, 98), (102, 107, 113, 98)] (fr + 1) (8 + (2 + 11) + lo) g [.ref (ga g [0]), .int y0, .int 6] (xR g dm I F n) (some (.int (-1001))) (xG_ g dm I F n) 1 6 := by
  refine xMl.of (by decide) (Nat.le_of_ble_eq_true rfl) ?_
  intro P_ e_ s m_ bl_ mt_ cd_ ls hx hb hr hown hlocks hml htab hE hK hts hH hS hl
  have hl : lv_has ls 4 [(0, .ref (ga g [0])), (1, .int y0), (2, .int 6)] := hl
  refine lv_iload_n hx hb dL_case0_0 rfl (lv_at hl 2 rfl) ?_
  refine lv_tableIn (tgt := 96) hx hb dL_case0_1 (by decide) (by decide) rfl (by decide) ?_
  refine lv_aload_n hx hb dL_case0_96 rfl (lv_at hl 0 rfl) ?_
  refine lv_iload_n hx hb dL_case0_97 rfl (lv_at hl 1 rfl) ?_
  refine x_contT (x_VT hx hb hml hown hE hS hl.1 cyX6_happened tw747 hT ⟨Nat.le_refl _, Nat.le_refl _⟩ ⟨Nat.le_of_eq (Nat.zero_add _), Nat.le_of_eq (Nat.zero_add _)⟩ (x_recv hK hH (id := [0]) hd0 (ci := 6) rfl (by decide) rfl) hH rfl rfl (Nat.le_of_ble_eq_true rfl) dL_case0_98) hS (fun ce q9 H1 locs1 hp1 hS1 hce hcv hcl => ?_)
  refine x_catch hown hE htab [⟨0, 49, 108, 19⟩, ⟨50, 63, 108, 19⟩, ⟨64, 69, 108, 19⟩, ⟨70, 75, 108, 19⟩, ⟨76, 81, 108, 19⟩, ⟨82, 95, 108, 19⟩] ⟨96, 101, 108, 19⟩ [⟨102, 107, 108, 19⟩, ⟨0, 49, 113, 98⟩, ⟨50, 63, 113, 98⟩, ⟨64, 69, 113, 98⟩, ⟨70, 75, 113, 98⟩, ⟨76, 81, 113, 98⟩, ⟨82, 95, 113, 98⟩, ⟨96, 101, 113, 98⟩, ⟨102, 107, 113, 98⟩] rfl (fun z hz => by
        simp only [List.mem_cons, List.not_mem_nil, or_false] at hz
        rcases hz with rfl | rfl | rfl | rfl | rfl | rfl
        · exact Or.inl rfl
        · exact Or.inl rfl
        · exact Or.inl rfl
        · exact Or.inl rfl
        · exact Or.inl rfl
        · exact Or.inl rfl) rfl (by decide) tw241 cfIO hce hcv hcl ?_
  refine lv_astore_n (lv' := [(3, .ref q9), (0, .ref (ga g [0])), (1, .int y0), (2, .int 6)]) hx hb dL_case0_108 rfl hl (by decide) rfl (fun ls hl => ?_)
  refine lv_sipush (v := (-1001)) hx hb dL_case0_109 (by decide) ?_
  refine W.widen (k := 1) (n := 6) (by omega) (by omega) ?_
  exact x_iret hx hb hr hlocks hS1 dL_case0_112 rfl hp1

set_option maxHeartbeats 1000000 in
set_option maxRecDepth 100000 in
theorem w_case07 (l : Launch) (g : xG) (dm : List Nat → Prop) (I : xI) (F : xF) (n fr lo mc ms mc' ms' : Nat) (y0 : Int32) (v : Int32) (Post Post' : Heap → Prop) (hd0 : dm [0]) (hmc : mc ≤ mc' ∧ ms ≤ ms') (hpp : ∀ H, Post H → Post' H) (hM : xM l yX6_daysLeft (xws yX6_daysLeft cX6_daysLeft 3 (some FieldType.int)) fr lo g [.ref (ga g [0]), .int y0] (xR g dm I F n) (some (.int v)) Post mc ms) : xMl l yL_case0 cL_case0 4 (some FieldType.int) [(0, 49, 108, 19), (50, 63, 108, 19), (64, 69, 108, 19), (70, 75, 108, 19), (76, 81, 108, 19), (82, 95, 108, 19), (96, 101, 108, 19), (102, 107, 108, 19), (0, 49, 113, 98), (50, 63, 113, 98), (64, 69, 113, 98), (70, 75, 113, 98), (76, 81, 113, 98), (82, 95, 113, 98), (96, 101, 113, 98), (102, 107, 113, 98)] (fr + 1) (8 + (3 + 11) + lo) g [.ref (ga g [0]), .int y0, .int 7] (xR g dm I F n) (some (.int v)) Post' mc' ms' := by
  refine xMl.of (by decide) (Nat.le_of_ble_eq_true rfl) ?_
  intro P_ e_ s m_ bl_ mt_ cd_ ls hx hb hr hown hlocks hml htab hE hK hts hH hS hl
  have hl : lv_has ls 4 [(0, .ref (ga g [0])), (1, .int y0), (2, .int 7)] := hl
  refine lv_iload_n hx hb dL_case0_0 rfl (lv_at hl 2 rfl) ?_
  refine lv_tableOut (tgt := 102) hx hb dL_case0_1 (Or.inr (by decide)) (by decide) ?_
  refine lv_aload_n hx hb dL_case0_102 rfl (lv_at hl 0 rfl) ?_
  refine lv_iload_n hx hb dL_case0_103 rfl (lv_at hl 1 rfl) ?_
  refine x_V1 hx hb hml hown hE hS hl.1 cyX6_daysLeft tw751 hM ⟨Nat.le_refl _, Nat.le_refl _⟩ ⟨(Nat.zero_add mc).symm ▸ hmc.1, (Nat.zero_add ms).symm ▸ hmc.2⟩ (x_recv hK hH (id := [0]) hd0 (ci := 6) rfl (by decide) rfl) hH rfl rfl (Nat.le_of_ble_eq_true rfl) dL_case0_104 (fun H locs hP hS => ?_)
  refine W.widen (k := mc') (n := ms') (by omega) (by omega) ?_
  exact x_iret hx hb hr hlocks hS dL_case0_107 rfl (hpp _ hP)

set_option maxHeartbeats 1000000 in
set_option maxRecDepth 100000 in
theorem w_case07_eIO (l : Launch) (g : xG) (dm : List Nat → Prop) (I : xI) (F : xF) (n fr lo : Nat) (y0 : Int32) (hd0 : dm [0]) (hT : xTc l yX6_daysLeft (xws yX6_daysLeft cX6_daysLeft 3 (some FieldType.int)) fr lo g [.ref (ga g [0]), .int y0] (xR g dm I F n) eIO (xG_ g dm I F n) 1 6) : xMl l yL_case0 cL_case0 4 (some FieldType.int) [(0, 49, 108, 19), (50, 63, 108, 19), (64, 69, 108, 19), (70, 75, 108, 19), (76, 81, 108, 19), (82, 95, 108, 19), (96, 101, 108, 19), (102, 107, 108, 19), (0, 49, 113, 98), (50, 63, 113, 98), (64, 69, 113, 98), (70, 75, 113, 98), (76, 81, 113, 98), (82, 95, 113, 98), (96, 101, 113, 98), (102, 107, 113, 98)] (fr + 1) (8 + (3 + 11) + lo) g [.ref (ga g [0]), .int y0, .int 7] (xR g dm I F n) (some (.int (-1001))) (xG_ g dm I F n) 1 6 := by
  refine xMl.of (by decide) (Nat.le_of_ble_eq_true rfl) ?_
  intro P_ e_ s m_ bl_ mt_ cd_ ls hx hb hr hown hlocks hml htab hE hK hts hH hS hl
  have hl : lv_has ls 4 [(0, .ref (ga g [0])), (1, .int y0), (2, .int 7)] := hl
  refine lv_iload_n hx hb dL_case0_0 rfl (lv_at hl 2 rfl) ?_
  refine lv_tableOut (tgt := 102) hx hb dL_case0_1 (Or.inr (by decide)) (by decide) ?_
  refine lv_aload_n hx hb dL_case0_102 rfl (lv_at hl 0 rfl) ?_
  refine lv_iload_n hx hb dL_case0_103 rfl (lv_at hl 1 rfl) ?_
  refine x_contT (x_VT hx hb hml hown hE hS hl.1 cyX6_daysLeft tw751 hT ⟨Nat.le_refl _, Nat.le_refl _⟩ ⟨Nat.le_of_eq (Nat.zero_add _), Nat.le_of_eq (Nat.zero_add _)⟩ (x_recv hK hH (id := [0]) hd0 (ci := 6) rfl (by decide) rfl) hH rfl rfl (Nat.le_of_ble_eq_true rfl) dL_case0_104) hS (fun ce q9 H1 locs1 hp1 hS1 hce hcv hcl => ?_)
  refine x_catch hown hE htab [⟨0, 49, 108, 19⟩, ⟨50, 63, 108, 19⟩, ⟨64, 69, 108, 19⟩, ⟨70, 75, 108, 19⟩, ⟨76, 81, 108, 19⟩, ⟨82, 95, 108, 19⟩, ⟨96, 101, 108, 19⟩] ⟨102, 107, 108, 19⟩ [⟨0, 49, 113, 98⟩, ⟨50, 63, 113, 98⟩, ⟨64, 69, 113, 98⟩, ⟨70, 75, 113, 98⟩, ⟨76, 81, 113, 98⟩, ⟨82, 95, 113, 98⟩, ⟨96, 101, 113, 98⟩, ⟨102, 107, 113, 98⟩] rfl (fun z hz => by
        simp only [List.mem_cons, List.not_mem_nil, or_false] at hz
        rcases hz with rfl | rfl | rfl | rfl | rfl | rfl | rfl
        · exact Or.inl rfl
        · exact Or.inl rfl
        · exact Or.inl rfl
        · exact Or.inl rfl
        · exact Or.inl rfl
        · exact Or.inl rfl
        · exact Or.inl rfl) rfl (by decide) tw241 cfIO hce hcv hcl ?_
  refine lv_astore_n (lv' := [(3, .ref q9), (0, .ref (ga g [0])), (1, .int y0), (2, .int 7)]) hx hb dL_case0_108 rfl hl (by decide) rfl (fun ls hl => ?_)
  refine lv_sipush (v := (-1001)) hx hb dL_case0_109 (by decide) ?_
  refine W.widen (k := 1) (n := 6) (by omega) (by omega) ?_
  exact x_iret hx hb hr hlocks hS1 dL_case0_112 rfl hp1

set_option maxHeartbeats 1000000 in
set_option maxRecDepth 100000 in
theorem w_case07_eNS (l : Launch) (g : xG) (dm : List Nat → Prop) (I : xI) (F : xF) (n fr lo : Nat) (y0 : Int32) (hd0 : dm [0]) (hT : xTc l yX6_daysLeft (xws yX6_daysLeft cX6_daysLeft 3 (some FieldType.int)) fr lo g [.ref (ga g [0]), .int y0] (xR g dm I F n) eNS (xG_ g dm I F n) 1 6) : xMl l yL_case0 cL_case0 4 (some FieldType.int) [(0, 49, 108, 19), (50, 63, 108, 19), (64, 69, 108, 19), (70, 75, 108, 19), (76, 81, 108, 19), (82, 95, 108, 19), (96, 101, 108, 19), (102, 107, 108, 19), (0, 49, 113, 98), (50, 63, 113, 98), (64, 69, 113, 98), (70, 75, 113, 98), (76, 81, 113, 98), (82, 95, 113, 98), (96, 101, 113, 98), (102, 107, 113, 98)] (fr + 1) (8 + (3 + 11) + lo) g [.ref (ga g [0]), .int y0, .int 7] (xR g dm I F n) (some (.int (-1002))) (xG_ g dm I F n) 1 6 := by
  refine xMl.of (by decide) (Nat.le_of_ble_eq_true rfl) ?_
  intro P_ e_ s m_ bl_ mt_ cd_ ls hx hb hr hown hlocks hml htab hE hK hts hH hS hl
  have hl : lv_has ls 4 [(0, .ref (ga g [0])), (1, .int y0), (2, .int 7)] := hl
  refine lv_iload_n hx hb dL_case0_0 rfl (lv_at hl 2 rfl) ?_
  refine lv_tableOut (tgt := 102) hx hb dL_case0_1 (Or.inr (by decide)) (by decide) ?_
  refine lv_aload_n hx hb dL_case0_102 rfl (lv_at hl 0 rfl) ?_
  refine lv_iload_n hx hb dL_case0_103 rfl (lv_at hl 1 rfl) ?_
  refine x_contT (x_VT hx hb hml hown hE hS hl.1 cyX6_daysLeft tw751 hT ⟨Nat.le_refl _, Nat.le_refl _⟩ ⟨Nat.le_of_eq (Nat.zero_add _), Nat.le_of_eq (Nat.zero_add _)⟩ (x_recv hK hH (id := [0]) hd0 (ci := 6) rfl (by decide) rfl) hH rfl rfl (Nat.le_of_ble_eq_true rfl) dL_case0_104) hS (fun ce q9 H1 locs1 hp1 hS1 hce hcv hcl => ?_)
  refine x_catch hown hE htab [⟨0, 49, 108, 19⟩, ⟨50, 63, 108, 19⟩, ⟨64, 69, 108, 19⟩, ⟨70, 75, 108, 19⟩, ⟨76, 81, 108, 19⟩, ⟨82, 95, 108, 19⟩, ⟨96, 101, 108, 19⟩, ⟨102, 107, 108, 19⟩, ⟨0, 49, 113, 98⟩, ⟨50, 63, 113, 98⟩, ⟨64, 69, 113, 98⟩, ⟨70, 75, 113, 98⟩, ⟨76, 81, 113, 98⟩, ⟨82, 95, 113, 98⟩, ⟨96, 101, 113, 98⟩] ⟨102, 107, 113, 98⟩ [] rfl (fun z hz => by
        simp only [List.mem_cons, List.not_mem_nil, or_false] at hz
        rcases hz with rfl | rfl | rfl | rfl | rfl | rfl | rfl | rfl | rfl | rfl | rfl | rfl | rfl | rfl | rfl
        · exact Or.inl rfl
        · exact Or.inl rfl
        · exact Or.inl rfl
        · exact Or.inl rfl
        · exact Or.inl rfl
        · exact Or.inl rfl
        · exact Or.inl rfl
        · exact Or.inr ⟨by decide, _, tw241, hE.ls _ (List.mem_of_getElem? (i := 6) rfl)⟩
        · exact Or.inl rfl
        · exact Or.inl rfl
        · exact Or.inl rfl
        · exact Or.inl rfl
        · exact Or.inl rfl
        · exact Or.inl rfl
        · exact Or.inl rfl) rfl (by decide) tw689 cfNS hce hcv hcl ?_
  refine lv_astore_n (lv' := [(3, .ref q9), (0, .ref (ga g [0])), (1, .int y0), (2, .int 7)]) hx hb dL_case0_113 rfl hl (by decide) rfl (fun ls hl => ?_)
  refine lv_sipush (v := (-1002)) hx hb dL_case0_114 (by decide) ?_
  refine W.widen (k := 1) (n := 6) (by omega) (by omega) ?_
  exact x_iret hx hb hr hlocks hS1 dL_case0_117 rfl hp1

set_option maxHeartbeats 1000000 in
set_option maxRecDepth 100000 in
theorem w_datum (l : Launch) (g : xG) (dm : List Nat → Prop) (I : xI) (F : xF) (n fr lo mc ms mc' ms' : Nat) (y0 y1 : Int32) (v : Int32) (Post Post' : Heap → Prop) (hd0 : dm [0]) (hmc : mc ≤ mc' ∧ ms ≤ ms') (hpp : ∀ H, Post H → Post' H) (hM : xM l yX6_datum (xws yX6_datum cX6_datum 4 (some FieldType.int)) fr lo g [.ref (ga g [0]), .int y0, .int y1] (xR g dm I F n) (some (.int v)) Post mc ms) : xMl l yL_datum cL_datum 4 (some FieldType.int) [(0, 6, 7, 19), (0, 6, 12, 21)] (fr + 1) (8 + (4 + 11) + lo) g [.ref (ga g [0]), .int y0, .int y1] (xR g dm I F n) (some (.int v)) Post' mc' ms' := by
  refine xMl.of (by decide) (Nat.le_of_ble_eq_true rfl) ?_
  intro P_ e_ s m_ bl_ mt_ cd_ ls hx hb hr hown hlocks hml htab hE hK hts hH hS hl
  have hl : lv_has ls 4 [(0, .ref (ga g [0])), (1, .int y0), (2, .int y1)] := hl
  refine lv_aload_n hx hb dL_datum_0 rfl (lv_at hl 0 rfl) ?_
  refine lv_iload_n hx hb dL_datum_1 rfl (lv_at hl 1 rfl) ?_
  refine lv_iload_n hx hb dL_datum_2 rfl (lv_at hl 2 rfl) ?_
  refine x_V1 hx hb hml hown hE hS hl.1 cyX6_datum tw763 hM ⟨Nat.le_refl _, Nat.le_refl _⟩ ⟨(Nat.zero_add mc).symm ▸ hmc.1, (Nat.zero_add ms).symm ▸ hmc.2⟩ (x_recv hK hH (id := [0]) hd0 (ci := 6) rfl (by decide) rfl) hH rfl rfl (Nat.le_of_ble_eq_true rfl) dL_datum_3 (fun H locs hP hS => ?_)
  refine W.widen (k := mc') (n := ms') (by omega) (by omega) ?_
  exact x_iret hx hb hr hlocks hS dL_datum_6 rfl (hpp _ hP)

set_option maxHeartbeats 1000000 in
set_option maxRecDepth 100000 in
theorem w_datum_eIO (l : Launch) (g : xG) (dm : List Nat → Prop) (I : xI) (F : xF) (n fr lo : Nat) (y0 y1 : Int32) (hd0 : dm [0]) (hT : xTc l yX6_datum (xws yX6_datum cX6_datum 4 (some FieldType.int)) fr lo g [.ref (ga g [0]), .int y0, .int y1] (xR g dm I F n) eIO (xG_ g dm I F n) 1 6) : xMl l yL_datum cL_datum 4 (some FieldType.int) [(0, 6, 7, 19), (0, 6, 12, 21)] (fr + 1) (8 + (4 + 11) + lo) g [.ref (ga g [0]), .int y0, .int y1] (xR g dm I F n) (some (.int (-1001))) (xG_ g dm I F n) 1 6 := by
  refine xMl.of (by decide) (Nat.le_of_ble_eq_true rfl) ?_
  intro P_ e_ s m_ bl_ mt_ cd_ ls hx hb hr hown hlocks hml htab hE hK hts hH hS hl
  have hl : lv_has ls 4 [(0, .ref (ga g [0])), (1, .int y0), (2, .int y1)] := hl
  refine lv_aload_n hx hb dL_datum_0 rfl (lv_at hl 0 rfl) ?_
  refine lv_iload_n hx hb dL_datum_1 rfl (lv_at hl 1 rfl) ?_
  refine lv_iload_n hx hb dL_datum_2 rfl (lv_at hl 2 rfl) ?_
  refine x_contT (x_VT hx hb hml hown hE hS hl.1 cyX6_datum tw763 hT ⟨Nat.le_refl _, Nat.le_refl _⟩ ⟨Nat.le_of_eq (Nat.zero_add _), Nat.le_of_eq (Nat.zero_add _)⟩ (x_recv hK hH (id := [0]) hd0 (ci := 6) rfl (by decide) rfl) hH rfl rfl (Nat.le_of_ble_eq_true rfl) dL_datum_3) hS (fun ce q9 H1 locs1 hp1 hS1 hce hcv hcl => ?_)
  refine x_catch hown hE htab [] ⟨0, 6, 7, 19⟩ [⟨0, 6, 12, 21⟩] rfl (fun z hz => absurd hz List.not_mem_nil) rfl (by decide) tw241 cfIO hce hcv hcl ?_
  refine lv_astore_n (lv' := [(3, .ref q9), (0, .ref (ga g [0])), (1, .int y0), (2, .int y1)]) hx hb dL_datum_7 rfl hl (by decide) rfl (fun ls hl => ?_)
  refine lv_sipush (v := (-1001)) hx hb dL_datum_8 (by decide) ?_
  refine W.widen (k := 1) (n := 6) (by omega) (by omega) ?_
  exact x_iret hx hb hr hlocks hS1 dL_datum_11 rfl hp1

set_option maxHeartbeats 1000000 in
set_option maxRecDepth 100000 in
theorem w_datum_eIA (l : Launch) (g : xG) (dm : List Nat → Prop) (I : xI) (F : xF) (n fr lo : Nat) (y0 y1 : Int32) (hd0 : dm [0]) (hT : xTc l yX6_datum (xws yX6_datum cX6_datum 4 (some FieldType.int)) fr lo g [.ref (ga g [0]), .int y0, .int y1] (xR g dm I F n) eIA (xG_ g dm I F n) 1 6) : xMl l yL_datum cL_datum 4 (some FieldType.int) [(0, 6, 7, 19), (0, 6, 12, 21)] (fr + 1) (8 + (4 + 11) + lo) g [.ref (ga g [0]), .int y0, .int y1] (xR g dm I F n) (some (.int (-1002))) (xG_ g dm I F n) 1 6 := by
  refine xMl.of (by decide) (Nat.le_of_ble_eq_true rfl) ?_
  intro P_ e_ s m_ bl_ mt_ cd_ ls hx hb hr hown hlocks hml htab hE hK hts hH hS hl
  have hl : lv_has ls 4 [(0, .ref (ga g [0])), (1, .int y0), (2, .int y1)] := hl
  refine lv_aload_n hx hb dL_datum_0 rfl (lv_at hl 0 rfl) ?_
  refine lv_iload_n hx hb dL_datum_1 rfl (lv_at hl 1 rfl) ?_
  refine lv_iload_n hx hb dL_datum_2 rfl (lv_at hl 2 rfl) ?_
  refine x_contT (x_VT hx hb hml hown hE hS hl.1 cyX6_datum tw763 hT ⟨Nat.le_refl _, Nat.le_refl _⟩ ⟨Nat.le_of_eq (Nat.zero_add _), Nat.le_of_eq (Nat.zero_add _)⟩ (x_recv hK hH (id := [0]) hd0 (ci := 6) rfl (by decide) rfl) hH rfl rfl (Nat.le_of_ble_eq_true rfl) dL_datum_3) hS (fun ce q9 H1 locs1 hp1 hS1 hce hcv hcl => ?_)
  refine x_catch hown hE htab [⟨0, 6, 7, 19⟩] ⟨0, 6, 12, 21⟩ [] rfl (fun z hz => by
        simp only [List.mem_cons, List.not_mem_nil, or_false] at hz
        rcases hz with rfl
        exact Or.inr ⟨by decide, _, tw241, hE.ls _ (List.mem_of_getElem? (i := 4) rfl)⟩) rfl (by decide) tw242 cfIA hce hcv hcl ?_
  refine lv_astore_n (lv' := [(3, .ref q9), (0, .ref (ga g [0])), (1, .int y0), (2, .int y1)]) hx hb dL_datum_12 rfl hl (by decide) rfl (fun ls hl => ?_)
  refine lv_sipush (v := (-1002)) hx hb dL_datum_13 (by decide) ?_
  refine W.widen (k := 1) (n := 6) (by omega) (by omega) ?_
  exact x_iret hx hb hr hlocks hS1 dL_datum_16 rfl hp1

set_option maxHeartbeats 1000000 in
set_option maxRecDepth 100000 in
theorem w_share (l : Launch) (g : xG) (dm : List Nat → Prop) (I : xI) (F : xF) (n fr lo mc ms mc' ms' : Nat) (y0 : Int32) (v : UInt32) (Post Post' : Heap → Prop) (hd0 : dm [0]) (hmc : mc ≤ mc' ∧ ms ≤ ms') (hpp : ∀ H, Post H → Post' H) (hM : xM l yX6_doneShare (xws yX6_doneShare cX6_doneShare 4 (some FieldType.float)) fr lo g [.ref (ga g [0]), .int y0] (xR g dm I F n) (some (.float v)) Post mc ms) : xMl l yL_share cL_share 3 (some FieldType.float) [(0, 5, 6, 19)] (fr + 1) (8 + (4 + 11) + lo) g [.ref (ga g [0]), .int y0] (xR g dm I F n) (some (.float v)) Post' mc' ms' := by
  refine xMl.of (by decide) (Nat.le_of_ble_eq_true rfl) ?_
  intro P_ e_ s m_ bl_ mt_ cd_ ls hx hb hr hown hlocks hml htab hE hK hts hH hS hl
  have hl : lv_has ls 3 [(0, .ref (ga g [0])), (1, .int y0)] := hl
  refine lv_aload_n hx hb dL_share_0 rfl (lv_at hl 0 rfl) ?_
  refine lv_iload_n hx hb dL_share_1 rfl (lv_at hl 1 rfl) ?_
  refine x_V1 hx hb hml hown hE hS hl.1 cyX6_doneShare tw770 hM ⟨Nat.le_refl _, Nat.le_refl _⟩ ⟨(Nat.zero_add mc).symm ▸ hmc.1, (Nat.zero_add ms).symm ▸ hmc.2⟩ (x_recv hK hH (id := [0]) hd0 (ci := 6) rfl (by decide) rfl) hH rfl rfl (Nat.le_of_ble_eq_true rfl) dL_share_2 (fun H locs hP hS => ?_)
  refine W.widen (k := mc') (n := ms') (by omega) (by omega) ?_
  exact x_fret hx hb hr hlocks hS dL_share_5 rfl (hpp _ hP)

set_option maxHeartbeats 1000000 in
set_option maxRecDepth 100000 in
theorem w_share_eIO (l : Launch) (g : xG) (dm : List Nat → Prop) (I : xI) (F : xF) (n fr lo : Nat) (y0 : Int32) (hd0 : dm [0]) (hT : xTc l yX6_doneShare (xws yX6_doneShare cX6_doneShare 4 (some FieldType.float)) fr lo g [.ref (ga g [0]), .int y0] (xR g dm I F n) eIO (xG_ g dm I F n) 1 6) : xMl l yL_share cL_share 3 (some FieldType.float) [(0, 5, 6, 19)] (fr + 1) (8 + (4 + 11) + lo) g [.ref (ga g [0]), .int y0] (xR g dm I F n) (some (.float 3212836864)) (xG_ g dm I F n) 1 6 := by
  refine xMl.of (by decide) (Nat.le_of_ble_eq_true rfl) ?_
  intro P_ e_ s m_ bl_ mt_ cd_ ls hx hb hr hown hlocks hml htab hE hK hts hH hS hl
  have hl : lv_has ls 3 [(0, .ref (ga g [0])), (1, .int y0)] := hl
  refine lv_aload_n hx hb dL_share_0 rfl (lv_at hl 0 rfl) ?_
  refine lv_iload_n hx hb dL_share_1 rfl (lv_at hl 1 rfl) ?_
  refine x_contT (x_VT hx hb hml hown hE hS hl.1 cyX6_doneShare tw770 hT ⟨Nat.le_refl _, Nat.le_refl _⟩ ⟨Nat.le_of_eq (Nat.zero_add _), Nat.le_of_eq (Nat.zero_add _)⟩ (x_recv hK hH (id := [0]) hd0 (ci := 6) rfl (by decide) rfl) hH rfl rfl (Nat.le_of_ble_eq_true rfl) dL_share_2) hS (fun ce q9 H1 locs1 hp1 hS1 hce hcv hcl => ?_)
  refine x_catch hown hE htab [] ⟨0, 5, 6, 19⟩ [] rfl (fun z hz => absurd hz List.not_mem_nil) rfl (by decide) tw241 cfIO hce hcv hcl ?_
  refine lv_astore_n (lv' := [(2, .ref q9), (0, .ref (ga g [0])), (1, .int y0)]) hx hb dL_share_6 rfl hl (by decide) rfl (fun ls hl => ?_)
  refine lv_ldcf (v := 3212836864) hx hb hown (hts _ tw774) dL_share_7 ?_
  refine W.widen (k := 1) (n := 6) (by omega) (by omega) ?_
  exact x_fret hx hb hr hlocks hS1 dL_share_9 rfl hp1
