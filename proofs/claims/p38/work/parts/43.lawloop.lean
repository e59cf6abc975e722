/-! THE LAW'S LOOP: its kinds, its numbers, its rounds -/
section XL
variable {p : Program} {l : Launch} {e : Env} {R : Room} {s : State} {m : MethodId} {args : Array Value} {below : List Frame} {meth : Method} {c : Code} {H : Heap} {locs : List Loc} {cells slots : Nat} {Q : State → Prop}
variable {ls : Array Slot} {g0 : xG} {a : List Nat → Nat} {h : xS} {I : xI} {n jn : Nat}
set_option maxRecDepth 100000 in
theorem t_180 (hst : l.stackTraces = false) (hx : p.tables.exec = Jvm.exec) (hb : c.code = cL_law) (hml : c.maxLocals = 17) (hown : s.vm.findClass "CasebookStepsLaw" = some m.cls) (hE : ∀ a, xE (setG g0 a) s s.heap) (hR : 12 ≤ R.frames ∧ 300 ≤ R.locals) {k T C D J0 : Nat} (hk : k < 58) (nxt : ∀ (a' : List Nat → Nat) (h' : xS) (J : xI) (n' jn' : Nat) (H : Heap) (locs : List Loc) (ls : Array Slot) (cells slots : Nat), cells ≤ C → slots ≤ D → jn' ≤ J0 → LW h' J jn' → sOw h' = 0 → xR (setG g0 a') (xD h') J (xFh h') n' H → va_S (gA g0) s.heap H locs → lv_has ls 17 [(3, .int (nI (k + 1))), (2, .int (nI T)), (1, .ref (a' [0])), (0, .ref (gSb g0))] → W p l e R s m args below meth c H locs cells slots Q (F0 m 21 ls [])) (hRc : C ≤ R.cells ∧ D ≤ R.slots) (hJ : J0 ≤ 512) {K : Nat} {A w c0 P : Nat} {u : Int32} {B : Int64} (hL : LW h I jn) (hj : jn + 1 ≤ J0) (ho : sOw h = 1) (hH : xR (setG g0 a) (xD h) I (xFh h) n H) {h0 : xS} {I0 : xI} (hL0 : LW h0 I0 jn) (hdr : ∀ (n : Nat) (H : Heap), xG_ (setG g0 a) (xD h) I (xFh h) n H → xG_ (setG g0 a) (xD h0) I0 (xFh h0) 0 H) (hu : u = 0 ∨ B = fSum h0 I0) (hw : w < 2 ^ 30) (hP : 0 < P ∧ P ≤ 3) (hc0 : c0 < 4 ∧ (c0 < sNc h ∨ sNc h = 0)) (hc : cells + 460 ≤ C) (hs : slots + 2800 ≤ D) (hS : va_S (gA g0) s.heap H locs) (hl : lv_has ls 17 [(14, .int (nI K)), (13, .int 0), (12, .ref (a [40])), (10, .long B), (9, .int u), (8, .int (nI c0)), (6, .int (nI P)), (5, .int (nI w)), (4, .int (nI A)), (3, .int (nI k)), (2, .int (nI T)), (1, .ref (a [0])), (0, .ref (gSb g0))]) : W p l e R s m args below meth c H locs cells slots Q (F0 m 180 ls []) := by
  refine lv_iload hx hb dL_law_180 (lv_at hl 0 rfl) ?_
  refine lv_iconst (v := 1) hx hb dL_law_182 (by decide) ?_
  refine lv_icmp_ge (tgt := 195) hx hb dL_law_183 (by decide) (fun _ => ?_) (fun _ => ?_)
  · skip
    refine lv_iload hx hb dL_law_195 (lv_at hl 0 rfl) ?_
    refine lv_iconst (v := 3) hx hb dL_law_197 (by decide) ?_
    refine lv_icmp_ge (tgt := 244) hx hb dL_law_198 (by decide) (fun _ => ?_) (fun _ => ?_)
    · skip
      refine lv_iload hx hb dL_law_244 (lv_at hl 0 rfl) ?_
      refine lv_bipush (v := 7) hx hb dL_law_246 (by decide) ?_
      refine lv_icmp_ge (tgt := 301) hx hb dL_law_248 (by decide) (fun _ => ?_) (fun _ => ?_)
      · skip
        refine lv_iload hx hb dL_law_301 (lv_at hl 0 rfl) ?_
        refine lv_bipush (v := 8) hx hb dL_law_303 (by decide) ?_
        refine lv_icmp_ge (tgt := 361) hx hb dL_law_305 (by decide) (fun _ => ?_) (fun _ => ?_)
        · skip
          refine lv_iload hx hb dL_law_361 (lv_at hl 0 rfl) ?_
          refine lv_bipush (v := 9) hx hb dL_law_363 (by decide) ?_
          refine lv_icmp_ge (tgt := 397) hx hb dL_law_365 (by decide) (fun _ => ?_) (fun _ => ?_)
          · skip
            refine lv_iload hx hb dL_law_397 (lv_at hl 0 rfl) ?_
            refine lv_bipush (v := 10) hx hb dL_law_399 (by decide) ?_
            refine lv_icmp_ge (tgt := 418) hx hb dL_law_401 (by decide) (fun _ => ?_) (fun _ => ?_)
            · skip
              refine lv_iload hx hb dL_law_418 (lv_at hl 0 rfl) ?_
              refine lv_bipush (v := 14) hx hb dL_law_420 (by decide) ?_
              refine lv_icmp_ge (tgt := 530) hx hb dL_law_422 (by decide) (fun _ => ?_) (fun _ => ?_)
              · skip
                refine lv_iload hx hb dL_law_530 (lv_at hl 0 rfl) ?_
                refine lv_bipush (v := 17) hx hb dL_law_532 (by decide) ?_
                refine lv_icmp_ge (tgt := 557) hx hb dL_law_534 (by decide) (fun _ => ?_) (fun _ => ?_)
                · skip
                  refine lv_iload hx hb dL_law_557 (lv_at hl 0 rfl) ?_
                  refine lv_bipush (v := 20) hx hb dL_law_559 (by decide) ?_
                  refine lv_icmp_ge (tgt := 621) hx hb dL_law_561 (by decide) (fun _ => ?_) (fun _ => ?_)
                  · skip
                    refine lv_iload hx hb dL_law_621 (lv_at hl 0 rfl) ?_
                    refine lv_bipush (v := 21) hx hb dL_law_623 (by decide) ?_
                    refine lv_icmp_ge (tgt := 653) hx hb dL_law_625 (by decide) (fun _ => ?_) (fun _ => ?_)
                    · skip
                      refine lv_iload hx hb dL_law_653 (lv_at hl 0 rfl) ?_
                      refine lv_bipush (v := 22) hx hb dL_law_655 (by decide) ?_
                      refine lv_icmp_ge (tgt := 681) hx hb dL_law_657 (by decide) (fun _ => ?_) (fun _ => ?_)
                      · skip
                        exact b_pass hst hx hb hml hown hE hR hk nxt hRc hJ hL hj ho hH hL0 hdr hu hw hP hc0 hc hs hS (lv_sub hl [1, 2, 3, 4, 5, 6, 7, 8, 9, 10, 11, 12] rfl)
                      · exact b_move hst hx hb hml hown hE hR hk nxt hRc hJ hL hj ho hH hL0 hdr hu hw hP hc0 hc hs hS (lv_sub hl [1, 2, 3, 4, 5, 6, 7, 8, 9, 10, 11, 12] rfl)
                    · exact b_wait hst hx hb hml hown hE hR hk nxt hRc hJ hL hj ho hH hL0 hdr hu hw hP hc0 hc hs hS (lv_sub hl [1, 2, 3, 4, 5, 6, 7, 8, 9, 10, 11, 12] rfl)
                  · exact b_comp hst hx hb hml hown hE hR hk nxt hRc hJ hL hj ho hH hL0 hdr hu hw hP hc0 hc hs hS (lv_sub hl [1, 2, 3, 4, 5, 6, 7, 8, 9, 10, 11, 12] rfl)
                · exact b_event hst hx hb hml hown hE hR hk nxt hRc hJ hL hj ho hH hL0 hdr hu hw hP hc0 hc hs hS (lv_sub hl [1, 2, 3, 4, 5, 6, 7, 8, 9, 10, 11, 12] rfl)
              · exact b_set hst hx hb hml hown hE hR hk nxt hRc hJ hL hj ho hH hL0 hdr hu hw hP hc0 hc hs hS (lv_sub hl [1, 2, 3, 4, 5, 6, 7, 8, 9, 10, 11, 12] rfl)
            · exact b_begin hst hx hb hml hown hE hR hk nxt hRc hJ hL hj ho hH hL0 hdr hu hw hP hc0 hc hs hS (lv_sub hl [1, 2, 3, 4, 5, 6, 7, 8, 9, 10, 11, 12] rfl)
          · exact b_limit hst hx hb hml hown hE hR hk nxt hRc hJ hL hj ho hH hL0 hdr hu hw hP hc0 hc hs hS (lv_sub hl [1, 2, 3, 4, 5, 6, 7, 8, 9, 10, 11, 12] rfl)
        · exact b_flag hst hx hb hml hown hE hR hk nxt hRc hJ hL hj ho hH hL0 hdr hu hw hP hc0 hc hs hS (lv_sub hl [1, 2, 3, 4, 5, 6, 7, 8, 9, 10, 11, 12] rfl)
      · exact b_cond hst hx hb hml hown hE hR hk nxt hRc hJ hL hj ho hH hL0 hdr hu hw hP hc0 hc hs hS (lv_sub hl [1, 2, 3, 4, 5, 6, 7, 8, 9, 10, 11, 12] rfl)
    · exact b_step hst hx hb hml hown hE hR hk nxt hRc hJ hL hj ho hH hL0 hdr hu hw hP hc0 hc hs hS (lv_sub hl [1, 2, 3, 4, 5, 6, 7, 8, 9, 10, 11, 12] rfl)
  · exact b_plan hst hx hb hml hown hE hR hk nxt hRc hJ hL hj ho hH hL0 hdr hu hw hP hc0 hc hs hS (lv_sub hl [1, 2, 3, 4, 5, 6, 7, 8, 9, 10, 11, 12] rfl)
set_option maxRecDepth 100000 in
theorem t_133 (hst : l.stackTraces = false) (hx : p.tables.exec = Jvm.exec) (hb : c.code = cL_law) (hml : c.maxLocals = 17) (hown : s.vm.findClass "CasebookStepsLaw" = some m.cls) (hE : ∀ a, xE (setG g0 a) s s.heap) (hR : 12 ≤ R.frames ∧ 300 ≤ R.locals) {k T C D J0 : Nat} (hk : k < 58) (nxt : ∀ (a' : List Nat → Nat) (h' : xS) (J : xI) (n' jn' : Nat) (H : Heap) (locs : List Loc) (ls : Array Slot) (cells slots : Nat), cells ≤ C → slots ≤ D → jn' ≤ J0 → LW h' J jn' → sOw h' = 0 → xR (setG g0 a') (xD h') J (xFh h') n' H → va_S (gA g0) s.heap H locs → lv_has ls 17 [(3, .int (nI (k + 1))), (2, .int (nI T)), (1, .ref (a' [0])), (0, .ref (gSb g0))] → W p l e R s m args below meth c H locs cells slots Q (F0 m 21 ls [])) (hRc : C ≤ R.cells ∧ D ≤ R.slots) (hJ : J0 ≤ 512) {A w c0 P : Nat} {u : Int32} {B : Int64} (hL : LW h I jn) (hj : jn + 1 ≤ J0) (ho : sOw h = 1) (hH : xR (setG g0 a) (xD h) I (xFh h) n H) {h0 : xS} {I0 : xI} (hL0 : LW h0 I0 jn) (hdr : ∀ (n : Nat) (H : Heap), xG_ (setG g0 a) (xD h) I (xFh h) n H → xG_ (setG g0 a) (xD h0) I0 (xFh h0) 0 H) (hu : u = 0 ∨ B = fSum h0 I0) (hw : w < 2 ^ 30) (hP : 0 < P ∧ P ≤ 3) (hc0 : c0 < 4 ∧ (c0 < sNc h ∨ sNc h = 0)) (hc : cells + 460 ≤ C) (hs : slots + 2800 ≤ D) (hS : va_S (gA g0) s.heap H locs) (hA : A < 2 ^ 30) (hl : lv_has ls 17 [(13, .int 0), (12, .ref (a [40])), (10, .long B), (9, .int u), (8, .int (nI c0)), (6, .int (nI P)), (5, .int (nI w)), (4, .int (nI A)), (3, .int (nI k)), (2, .int (nI T)), (1, .ref (a [0])), (0, .ref (gSb g0))]) : W p l e R s m args below meth c H locs cells slots Q (F0 m 133 ls []) := by
  have hts := (hE a).ts args
  have hn4 := hL.n
  refine lv_iload_n hx hb dL_law_133 rfl (lv_at hl 8 rfl) ?_
  refine lv_iconst (v := 1) hx hb dL_law_134 (by decide) ?_
  refine lv_icmp_ge (tgt := 142) hx hb dL_law_135 (by decide) (fun _ => ?_) (fun _ => ?_)
  · skip
    refine lv_iload_n hx hb dL_law_142 rfl (lv_at hl 8 rfl) ?_
    refine lv_bipush (v := 6) hx hb dL_law_143 (by decide) ?_
    refine lv_icmp_ge (tgt := 152) hx hb dL_law_145 (by decide) (fun _ => ?_) (fun _ => ?_)
    · skip
      refine lv_iload_n hx hb dL_law_152 rfl (lv_at hl 8 rfl) ?_
      refine lv_bipush (v := 9) hx hb dL_law_153 (by decide) ?_
      refine lv_icmp_ge (tgt := 162) hx hb dL_law_155 (by decide) (fun _ => ?_) (fun _ => ?_)
      · skip
        refine lv_iload_n hx hb dL_law_162 rfl (lv_at hl 8 rfl) ?_
        refine lv_bipush (v := 10) hx hb dL_law_163 (by decide) ?_
        refine lv_icmp_ge (tgt := 173) hx hb dL_law_165 (by decide) (fun _ => ?_) (fun _ => ?_)
        · skip
          refine lv_iload hx hb dL_law_173 (lv_at hl 7 rfl) ?_
          refine lv_bipush (v := 24) hx hb dL_law_175 (by decide) ?_
          refine lv_irem hx hb dL_law_177 (by decide) ?_
          rw [show ((nI A) - (nI A) / 24 * 24) = (nI (A % 24)) from nd_rem (a := A) (b := 24) (by omega) (by omega) (by omega)]
          refine lv_istore (lv' := [(14, .int (nI (A % 24))), (13, .int 0), (12, .ref (a [40])), (10, .long B), (9, .int u), (8, .int (nI c0)), (6, .int (nI P)), (5, .int (nI w)), (4, .int (nI A)), (3, .int (nI k)), (2, .int (nI T)), (1, .ref (a [0])), (0, .ref (gSb g0))]) hx hb dL_law_178 hl (by decide) rfl (fun ls hl => ?_)
          exact t_180 hst hx hb hml hown hE hR hk nxt hRc hJ (K := A % 24) hL hj ho hH hL0 hdr hu hw hP hc0 hc hs hS (lv_sub hl [0, 1, 2, 3, 4, 5, 6, 7, 8, 9, 10, 11, 12] rfl)
        · skip
          refine lv_bipush (v := 9) hx hb dL_law_168 (by decide) ?_
          refine lv_goto (tgt := 178) hx hb dL_law_170 (by decide) ?_
          refine lv_istore (lv' := [(14, .int 9), (13, .int 0), (12, .ref (a [40])), (10, .long B), (9, .int u), (8, .int (nI c0)), (6, .int (nI P)), (5, .int (nI w)), (4, .int (nI A)), (3, .int (nI k)), (2, .int (nI T)), (1, .ref (a [0])), (0, .ref (gSb g0))]) hx hb dL_law_178 hl (by decide) rfl (fun ls hl => ?_)
          exact t_180 hst hx hb hml hown hE hR hk nxt hRc hJ (K := 9) hL hj ho hH hL0 hdr hu hw hP hc0 hc hs hS (lv_sub hl [0, 1, 2, 3, 4, 5, 6, 7, 8, 9, 10, 11, 12] rfl)
      · skip
        refine lv_iconst (v := 3) hx hb dL_law_158 (by decide) ?_
        refine lv_goto (tgt := 178) hx hb dL_law_159 (by decide) ?_
        refine lv_istore (lv' := [(14, .int 3), (13, .int 0), (12, .ref (a [40])), (10, .long B), (9, .int u), (8, .int (nI c0)), (6, .int (nI P)), (5, .int (nI w)), (4, .int (nI A)), (3, .int (nI k)), (2, .int (nI T)), (1, .ref (a [0])), (0, .ref (gSb g0))]) hx hb dL_law_178 hl (by decide) rfl (fun ls hl => ?_)
        exact t_180 hst hx hb hml hown hE hR hk nxt hRc hJ (K := 3) hL hj ho hH hL0 hdr hu hw hP hc0 hc hs hS (lv_sub hl [0, 1, 2, 3, 4, 5, 6, 7, 8, 9, 10, 11, 12] rfl)
    · skip
      refine lv_iconst (v := 1) hx hb dL_law_148 (by decide) ?_
      refine lv_goto (tgt := 178) hx hb dL_law_149 (by decide) ?_
      refine lv_istore (lv' := [(14, .int 1), (13, .int 0), (12, .ref (a [40])), (10, .long B), (9, .int u), (8, .int (nI c0)), (6, .int (nI P)), (5, .int (nI w)), (4, .int (nI A)), (3, .int (nI k)), (2, .int (nI T)), (1, .ref (a [0])), (0, .ref (gSb g0))]) hx hb dL_law_178 hl (by decide) rfl (fun ls hl => ?_)
      exact t_180 hst hx hb hml hown hE hR hk nxt hRc hJ (K := 1) hL hj ho hH hL0 hdr hu hw hP hc0 hc hs hS (lv_sub hl [0, 1, 2, 3, 4, 5, 6, 7, 8, 9, 10, 11, 12] rfl)
  · skip
    refine lv_iconst (v := 0) hx hb dL_law_138 (by decide) ?_
    refine lv_goto (tgt := 178) hx hb dL_law_139 (by decide) ?_
    refine lv_istore (lv' := [(14, .int 0), (13, .int 0), (12, .ref (a [40])), (10, .long B), (9, .int u), (8, .int (nI c0)), (6, .int (nI P)), (5, .int (nI w)), (4, .int (nI A)), (3, .int (nI k)), (2, .int (nI T)), (1, .ref (a [0])), (0, .ref (gSb g0))]) hx hb dL_law_178 hl (by decide) rfl (fun ls hl => ?_)
    exact t_180 hst hx hb hml hown hE hR hk nxt hRc hJ (K := 0) hL hj ho hH hL0 hdr hu hw hP hc0 hc hs hS (lv_sub hl [0, 1, 2, 3, 4, 5, 6, 7, 8, 9, 10, 11, 12] rfl)
set_option maxHeartbeats 1000000 in
set_option maxRecDepth 100000 in
theorem t_102 (hst : l.stackTraces = false) (hx : p.tables.exec = Jvm.exec) (hb : c.code = cL_law) (hml : c.maxLocals = 17) (hown : s.vm.findClass "CasebookStepsLaw" = some m.cls) (hE : ∀ a, xE (setG g0 a) s s.heap) (hR : 12 ≤ R.frames ∧ 300 ≤ R.locals) {k T C D J0 : Nat} (hk : k < 58) (nxt : ∀ (a' : List Nat → Nat) (h' : xS) (J : xI) (n' jn' : Nat) (H : Heap) (locs : List Loc) (ls : Array Slot) (cells slots : Nat), cells ≤ C → slots ≤ D → jn' ≤ J0 → LW h' J jn' → sOw h' = 0 → xR (setG g0 a') (xD h') J (xFh h') n' H → va_S (gA g0) s.heap H locs → lv_has ls 17 [(3, .int (nI (k + 1))), (2, .int (nI T)), (1, .ref (a' [0])), (0, .ref (gSb g0))] → W p l e R s m args below meth c H locs cells slots Q (F0 m 21 ls [])) (hRc : C ≤ R.cells ∧ D ≤ R.slots) (hJ : J0 ≤ 512) {A w c0 P : Nat} {u : Int32} {B : Int64} (hL : LW h I jn) (hj : jn + 1 ≤ J0) (ho : sOw h = 0) (hG : xG_ (setG g0 a) (xD h) I (xFh h) 0 H) (hu : u = 0 ∨ B = fSum h I) (hA : A < 2 ^ 30) (hw : w < 2 ^ 30) (hP : 0 < P ∧ P ≤ 3) (hc0 : c0 < 4 ∧ (c0 < sNc h ∨ sNc h = 0)) (hc : cells + 461 ≤ C) (hs : slots + 2802 ≤ D) (hS : va_S (gA g0) s.heap H locs) (hl : lv_has ls 17 [(10, .long B), (9, .int u), (8, .int (nI c0)), (6, .int (nI P)), (5, .int (nI w)), (4, .int (nI A)), (3, .int (nI k)), (2, .int (nI T)), (1, .ref (a [0])), (0, .ref (gSb g0))]) : W p l e R s m args below meth c H locs cells slots Q (F0 m 102 ls []) := by
  have hts := (hE a).ts args
  have no40 : ∀ id, xD h id → ¬ id = [40] := fun id hi => by
    rintro rfl
    exact absurd (show 1 ≤ sOw h from hi) (by omega)
  obtain ⟨n, -, hH⟩ := hG
  obtain ⟨a', ha'⟩ : ∃ a', a' = aI a [40] n := ⟨_, rfl⟩
  have hH2 : xR (setG g0 a') (xD h) I (xFh h) n H := hL.new (fun id => id = [40]) (fun id hi => by rw [ha']; exact aI_ne hi) no40 (fun j => by simp) hH
  rw [show a [0] = a' [0] by rw [ha']; exact (aI_ne (by simp)).symm] at hl
  refine lv_iconst (v := 2) hx hb dL_law_102 (by decide) ?_
  refine x_newa (g := setG g0 a') (atype := .int) (L := 2) hx hb (hts _ tw60) 0 (by decide) rfl (hE a').1 hH2 hS [40] (fun z => no40 _ z rfl) (show a' [40] = n by rw [ha']; exact aI_at) rfl (by rfl) (by decide) (by omega) (by omega) dL_law_103 (fun H hH hS => ?_)
  have hH := own1 hH
  refine lv_dup hx hb dL_law_105 rfl ?_
  refine lv_iconst (v := 0) hx hb dL_law_106 (by decide) ?_
  refine lv_iload hx hb dL_law_107 (lv_at hl 4 rfl) ?_
  refine lv_bipush (v := 64) hx hb dL_law_109 (by decide) ?_
  refine lv_idiv hx hb dL_law_111 (by decide) ?_
  rw [show ((nI w) / 64) = (nI (w / 64)) from nd_div (a := w) (b := 64) (by omega) (by omega) (by omega)]
  refine lv_iconst (v := 4) hx hb dL_law_112 (by decide) ?_
  refine lv_irem hx hb dL_law_113 (by decide) ?_
  rw [show ((nI (w / 64)) - (nI (w / 64)) / 4 * 4) = (nI (((w / 64)) % 4)) from nd_rem (a := (w / 64)) (b := 4) (by omega) (by omega) (by omega)]
  refine x_iast (g := setG g0 a') hx hb (hE a').1 hH hS (id := [40]) (show xD (hOw h 1) [40] from Nat.le_refl 1) (L := 2) rfl 0 rfl (by decide) (by decide) rfl dL_law_114 (fun H locs hH hS => ?_)
  refine lv_dup hx hb dL_law_115 rfl ?_
  refine lv_iconst (v := 1) hx hb dL_law_116 (by decide) ?_
  refine lv_iload hx hb dL_law_117 (lv_at hl 4 rfl) ?_
  refine lv_sipush (v := 256) hx hb dL_law_119 (by decide) ?_
  refine lv_idiv hx hb dL_law_122 (by decide) ?_
  rw [show ((nI w) / 256) = (nI (w / 256)) from nd_div (a := w) (b := 256) (by omega) (by omega) (by omega)]
  refine lv_iconst (v := 5) hx hb dL_law_123 (by decide) ?_
  refine lv_irem hx hb dL_law_124 (by decide) ?_
  rw [show ((nI (w / 256)) - (nI (w / 256)) / 5 * 5) = (nI (((w / 256)) % 5)) from nd_rem (a := (w / 256)) (b := 5) (by omega) (by omega) (by omega)]
  refine lv_iconst (v := 2) hx hb dL_law_125 (by decide) ?_
  refine lv_isub hx hb dL_law_126 ?_
  refine x_iast (g := setG g0 a') hx hb (hE a').1 hH hS (id := [40]) (show xD (hOw h 1) [40] from Nat.le_refl 1) (L := 2) rfl 1 rfl (by decide) (by decide) rfl dL_law_127 (fun H locs hH hS => ?_)
  refine lv_astore (lv' := [(12, .ref (a' [40])), (10, .long B), (9, .int u), (8, .int (nI c0)), (6, .int (nI P)), (5, .int (nI w)), (4, .int (nI A)), (3, .int (nI k)), (2, .int (nI T)), (1, .ref (a' [0])), (0, .ref (gSb g0))]) hx hb dL_law_128 hl (by decide) rfl (fun ls hl => ?_)
  refine lv_iconst (v := 0) hx hb dL_law_130 (by decide) ?_
  refine lv_istore (lv' := [(13, .int 0), (12, .ref (a' [40])), (10, .long B), (9, .int u), (8, .int (nI c0)), (6, .int (nI P)), (5, .int (nI w)), (4, .int (nI A)), (3, .int (nI k)), (2, .int (nI T)), (1, .ref (a' [0])), (0, .ref (gSb g0))]) hx hb dL_law_131 hl (by decide) rfl (fun ls hl => ?_)
  have eI : ∀ id, id ≠ [40] → id ≠ [41] → (up (up (upR I [40] (fun _ => 0)) [40] 0 (nI (((w / 64)) % 4))) [40] 1 ((nI (((w / 256)) % 5)) - 2)) id = I id := fun id q1 q2 => by rw [up_id q1, up_id q1, upR_id q1]
  exact t_133 hst hx hb hml hown hE hR hk nxt hRc hJ ((hL.ow 1).up eI) hj rfl hH hL (fun n H hG => hG.drop 1 rfl ho eI) hu hw hP hc0 (by omega) (by omega) hS hA (lv_sub hl [0, 1, 2, 3, 4, 5, 6, 7, 8, 9, 10, 11] rfl)
set_option maxHeartbeats 1000000 in
set_option maxRecDepth 100000 in
theorem t_loop (hst : l.stackTraces = false) (hx : p.tables.exec = Jvm.exec) (hb : c.code = cL_law) (hml : c.maxLocals = 17) (hown : s.vm.findClass "CasebookStepsLaw" = some m.cls) (hE : ∀ a, xE (setG g0 a) s s.heap) (hR : 12 ≤ R.frames ∧ 300 ≤ R.locals) (hSl : gSl g0 < 2 ^ 31) (c0 s0 T : Nat) (hT : T < 58) (hRc : c0 + 36000 ≤ R.cells ∧ s0 + 221000 ≤ R.slots) (fin : ∀ (a' : List Nat → Nat) (h' : xS) (J : xI) (n' jn' : Nat) (H : Heap) (locs : List Loc) (ls : Array Slot) (cells slots : Nat), cells ≤ c0 + 36000 → slots ≤ s0 + 221000 → jn' ≤ 58 → LW h' J jn' → sOw h' = 0 → xR (setG g0 a') (xD h') J (xFh h') n' H → va_S (gA g0) s.heap H locs → lv_has ls 17 [(1, .ref (a' [0])), (0, .ref (gSb g0))] → W p l e R s m args below meth c H locs cells slots Q (F0 m 783 ls [])) : ∀ (f k : Nat) (a : List Nat → Nat) (h : xS) (I : xI) (n jn : Nat) (H : Heap) (locs : List Loc) (ls : Array Slot) (cells slots : Nat), T - k < f → k ≤ T → jn ≤ k → cells ≤ c0 + 620 * k → slots ≤ s0 + 3800 * k → LW h I jn → sOw h = 0 → xR (setG g0 a) (xD h) I (xFh h) n H → va_S (gA g0) s.heap H locs → lv_has ls 17 [(3, .int (nI k)), (2, .int (nI T)), (1, .ref (a [0])), (0, .ref (gSb g0))] → W p l e R s m args below meth c H locs cells slots Q (F0 m 21 ls []) := by
  intro f
  induction f with
  | zero => intro k a h I n jn H locs ls cells slots hf; omega
  | succ f ih =>
    intro k a h I n jn H locs ls cells slots hf hk hj hc hs hL ho hH hS hl
    have hts := (hE a).ts args
    have hn4 := hL.n
    refine lv_iload_n hx hb dL_law_21 rfl (lv_at hl 0 rfl) ?_
    refine lv_iload_n hx hb dL_law_22 rfl (lv_at hl 1 rfl) ?_
    refine lv_icmp_ge (tgt := 783) hx hb dL_law_23 (by decide) (fun q => ?_) (fun q => ?_)
    · exact fin a h I n jn H locs ls cells slots (by omega) (by omega) (by omega) hL ho hH hS (lv_sub hl [2, 3] rfl)
    · have hkT : k < T := Decidable.of_not_not (fun z => q ((nI_leI (a := T) (b := k) (by omega) (by omega)).mpr (by omega)))
      refine lv_aload_n hx hb dL_law_26 rfl (lv_at hl 3 rfl) ?_
      refine lv_iconst (v := 1) hx hb dL_law_27 (by decide) ?_
      refine lv_iload_n hx hb dL_law_28 rfl (lv_at hl 0 rfl) ?_
      refine lv_iadd hx hb dL_law_29 ?_
      rw [show (1 : Int32) + nI k = nI (k + 1) from (Int32.add_comm _ _).trans (nI_1 k)]
      refine x_S1 (own := "CasebookStepsLaw") (g := setG g0 a) hx hb hml hown (hE a) hS hl.1 cyL_cell tw154 (c_cell l (setG g0 a) (xD h) I (xFh h) n (k + 1) (by omega) hSl) ⟨by omega, by omega⟩ ⟨by omega, by omega⟩ hH rfl rfl (Nat.le_of_ble_eq_true rfl) dL_law_30 (fun H locs hH hS => ?_)
      refine lv_ldc (v := 100000000) hx hb hown (hts _ tw838) dL_law_33 ?_
      refine x_S1 (own := "CasebookStepsLaw") (g := setG g0 a) hx hb hml hown (hE a) hS hl.1 cyL_some tw157 (c_some l (setG g0 a) (xD h) I (xFh h) n (cV (setG g0 a) (k + 1)) 100000000 (by decide)) ⟨by omega, by omega⟩ ⟨by omega, by omega⟩ hH rfl rfl (Nat.le_of_ble_eq_true rfl) dL_law_35 (fun H locs hH hS => ?_)
      obtain ⟨A, hA1, hA2⟩ : ∃ q, q < 100000000 ∧ sM (cV (setG g0 a) (k + 1)) 100000000 = nI q := sM_nI _ (m := 100000000) (by decide) (by decide)
      rw [hA2]
      refine lv_istore (lv' := [(4, .int (nI A)), (3, .int (nI k)), (2, .int (nI T)), (1, .ref (a [0])), (0, .ref (gSb g0))]) hx hb dL_law_38 hl (by decide) rfl (fun ls hl => ?_)
      refine lv_iload hx hb dL_law_40 (lv_at hl 0 rfl) ?_
      refine lv_bipush (v := 24) hx hb dL_law_42 (by decide) ?_
      refine lv_idiv hx hb dL_law_44 (by decide) ?_
      rw [show ((nI A) / 24) = (nI (A / 24)) from nd_div (a := A) (b := 24) (by omega) (by omega) (by omega)]
      refine lv_istore (lv' := [(5, .int (nI (A / 24))), (4, .int (nI A)), (3, .int (nI k)), (2, .int (nI T)), (1, .ref (a [0])), (0, .ref (gSb g0))]) hx hb dL_law_45 hl (by decide) rfl (fun ls hl => ?_)
      refine lv_iconst (v := 1) hx hb dL_law_47 (by decide) ?_
      refine lv_aload_n hx hb dL_law_48 rfl (lv_at hl 4 rfl) ?_
      refine x_S1 (own := "CasebookStepsLaw") (g := setG g0 a) hx hb hml hown (hE a) hS hl.1 cyL_plans tw775 (c_plans hst (setG g0 a) n hL) ⟨by omega, by omega⟩ ⟨by omega, by omega⟩ hH rfl rfl (Nat.le_of_ble_eq_true rfl) dL_law_49 (fun H locs hG hS => ?_)
      refine t_max hx hb hml hl.1 hown hts hR ⟨by omega, by omega⟩ (by omega) (Nat.le_of_ble_eq_true rfl) dL_law_52 ?_
      obtain ⟨P, hP⟩ : ∃ P, P = max 1 (sNp h) := ⟨_, rfl⟩
      rw [← hP]
      refine lv_istore (lv' := [(6, .int (nI P)), (5, .int (nI (A / 24))), (4, .int (nI A)), (3, .int (nI k)), (2, .int (nI T)), (1, .ref (a [0])), (0, .ref (gSb g0))]) hx hb dL_law_55 hl (by decide) rfl (fun ls hl => ?_)
      refine lv_iconst (v := 1) hx hb dL_law_57 (by decide) ?_
      refine lv_aload_n hx hb dL_law_58 rfl (lv_at hl 5 rfl) ?_
      obtain ⟨n2, -, hH⟩ := hG
      refine x_V1 (own := "CasebookStepsLaw") (g := setG g0 a) hx hb hml hown (hE a) hS hl.1 cyX6_cases tw150 (c_X6_cases l (setG g0 a) h I n2 hL.1.1.1 hL.1.2.1.1) ⟨by omega, by omega⟩ ⟨by omega, by omega⟩ (x_recv (hE a).1 hH (id := [0]) trivial (ci := 6) rfl (by decide) rfl) hH rfl rfl (Nat.le_of_ble_eq_true rfl) dL_law_59 (fun H locs hH hS => ?_)
      refine t_max hx hb hml hl.1 hown hts hR ⟨by omega, by omega⟩ (by omega) (Nat.le_of_ble_eq_true rfl) dL_law_62 ?_
      obtain ⟨M, hM⟩ : ∃ M, M = max 1 (sNc h) := ⟨_, rfl⟩
      rw [← hM]
      have hwM : A / 24 % M < M := Nat.mod_lt _ (by omega)
      refine lv_istore (lv' := [(7, .int (nI M)), (6, .int (nI P)), (5, .int (nI (A / 24))), (4, .int (nI A)), (3, .int (nI k)), (2, .int (nI T)), (1, .ref (a [0])), (0, .ref (gSb g0))]) hx hb dL_law_65 hl (by decide) rfl (fun ls hl => ?_)
      refine lv_iload hx hb dL_law_67 (lv_at hl 2 rfl) ?_
      refine lv_iload hx hb dL_law_69 (lv_at hl 0 rfl) ?_
      refine lv_irem hx hb dL_law_71 (nd_ne (by omega) (by omega)) ?_
      rw [show ((nI (A / 24)) - (nI (A / 24)) / (nI M) * (nI M)) = (nI (((A / 24)) % M)) from nd_rem (a := (A / 24)) (b := M) (by omega) (by omega) (by omega)]
      refine lv_istore (lv' := [(8, .int (nI (((A / 24)) % M))), (7, .int (nI M)), (6, .int (nI P)), (5, .int (nI (A / 24))), (4, .int (nI A)), (3, .int (nI k)), (2, .int (nI T)), (1, .ref (a [0])), (0, .ref (gSb g0))]) hx hb dL_law_72 hl (by decide) rfl (fun ls hl => ?_)
      refine lv_iload_n hx hb dL_law_74 rfl (lv_at hl 5 rfl) ?_
      refine lv_iconst (v := 2) hx hb dL_law_75 (by decide) ?_
      refine lv_irem hx hb dL_law_76 (by decide) ?_
      rw [show ((nI k) - (nI k) / 2 * 2) = (nI (k % 2)) from nd_rem (a := k) (b := 2) (by omega) (by omega) (by omega)]
      refine lv_if_ne (tgt := 84) hx hb dL_law_77 (by decide) (fun _ => ?_) (fun _ => ?_)
      · skip
        refine lv_iconst (v := 0) hx hb dL_law_84 (by decide) ?_
        refine lv_istore (lv' := [(9, .int 0), (8, .int (nI (((A / 24)) % M))), (7, .int (nI M)), (6, .int (nI P)), (5, .int (nI (A / 24))), (4, .int (nI A)), (3, .int (nI k)), (2, .int (nI T)), (1, .ref (a [0])), (0, .ref (gSb g0))]) hx hb dL_law_85 hl (by decide) rfl (fun ls hl => ?_)
        refine lv_iload hx hb dL_law_87 (lv_at hl 0 rfl) ?_
        refine lv_if_eq (tgt := 99) hx hb dL_law_89 (by decide) (fun _ => ?_) (fun q_ => absurd (by decide) q_)
        refine lv_lconst (v := 0) hx hb dL_law_99 (by decide) ?_
        refine lv_lstore (lv' := [(10, .long 0), (9, .int 0), (8, .int (nI (((A / 24)) % M))), (7, .int (nI M)), (6, .int (nI P)), (5, .int (nI (A / 24))), (4, .int (nI A)), (3, .int (nI k)), (2, .int (nI T)), (1, .ref (a [0])), (0, .ref (gSb g0))]) hx hb dL_law_100 hl (by decide) rfl (fun ls hl => ?_)
        exact t_102 hst hx hb hml hown hE hR (show k < 58 by omega) (T := T) (C := c0 + 620 * (k + 1)) (D := s0 + 3800 * (k + 1)) (J0 := k + 1) (fun a' h' J n' jn' H locs ls cells slots q1 q2 q3 q4 q5 q6 q7 q8 => ih (k + 1) a' h' J n' jn' H locs ls cells slots (by omega) (by omega) q3 q1 q2 q4 q5 q6 q7 q8) ⟨by omega, by omega⟩ (by omega) hL (by omega) ho ⟨n2, Nat.zero_le _, hH⟩ (Or.inl rfl) (by omega) (by omega) ⟨by omega, by omega⟩ ⟨by omega, by omega⟩ (by omega) (by omega) hS (lv_sub hl [0, 1, 2, 4, 5, 6, 7, 8, 9, 10] rfl)
      · skip
        refine lv_iconst (v := 1) hx hb dL_law_80 (by decide) ?_
        refine lv_goto (tgt := 85) hx hb dL_law_81 (by decide) ?_
        refine lv_istore (lv' := [(9, .int 1), (8, .int (nI (((A / 24)) % M))), (7, .int (nI M)), (6, .int (nI P)), (5, .int (nI (A / 24))), (4, .int (nI A)), (3, .int (nI k)), (2, .int (nI T)), (1, .ref (a [0])), (0, .ref (gSb g0))]) hx hb dL_law_85 hl (by decide) rfl (fun ls hl => ?_)
        refine lv_iload hx hb dL_law_87 (lv_at hl 0 rfl) ?_
        refine lv_if_eq (tgt := 99) hx hb dL_law_89 (by decide) (fun q_ => absurd q_ (by decide)) (fun _ => ?_)
        refine lv_aload_n hx hb dL_law_92 rfl (lv_at hl 8 rfl) ?_
        refine x_S1 (own := "CasebookStepsLaw") (g := setG g0 a) hx hb hml hown (hE a) hS hl.1 cyL_sum tw778 (c_sum hst (setG g0 a) n2 hL) ⟨by omega, by omega⟩ ⟨by omega, by omega⟩ hH rfl rfl (Nat.le_of_ble_eq_true rfl) dL_law_93 (fun H locs hG hS => ?_)
        obtain ⟨n3, -, hH⟩ := hG
        refine lv_goto (tgt := 100) hx hb dL_law_96 (by decide) ?_
        refine lv_lstore (lv' := [(10, .long (fSum h I)), (9, .int 1), (8, .int (nI (((A / 24)) % M))), (7, .int (nI M)), (6, .int (nI P)), (5, .int (nI (A / 24))), (4, .int (nI A)), (3, .int (nI k)), (2, .int (nI T)), (1, .ref (a [0])), (0, .ref (gSb g0))]) hx hb dL_law_100 hl (by decide) rfl (fun ls hl => ?_)
        exact t_102 hst hx hb hml hown hE hR (show k < 58 by omega) (T := T) (C := c0 + 620 * (k + 1)) (D := s0 + 3800 * (k + 1)) (J0 := k + 1) (fun a' h' J n' jn' H locs ls cells slots q1 q2 q3 q4 q5 q6 q7 q8 => ih (k + 1) a' h' J n' jn' H locs ls cells slots (by omega) (by omega) q3 q1 q2 q4 q5 q6 q7 q8) ⟨by omega, by omega⟩ (by omega) hL (by omega) ho ⟨n3, Nat.zero_le _, hH⟩ (Or.inr rfl) (by omega) (by omega) ⟨by omega, by omega⟩ ⟨by omega, by omega⟩ (by omega) (by omega) hS (lv_sub hl [0, 1, 2, 4, 5, 6, 7, 8, 9, 10] rfl)
end XL
