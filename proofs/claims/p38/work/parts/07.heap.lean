/-! THE LOGICAL HEAP: ids are lists of numbers, the first one says the kind. I: what is an int in a cell; F: what is a reference, as an id. -/
abbrev xI : Type := List Nat → Nat → Int32
abbrev xF : Type := List Nat → Nat → Option (List Nat)
abbrev xG : Type := (va_G × Nat × Nat × (Nat → Int32) × Nat × Nat × Nat × Nat) × (Nat → ClassId) × (Nat → Prop) × (List Nat → Nat)
abbrev gD (g : xG) : va_G := g.1.1
/-- the script's row of ints: where it lies, its length, its ints -/
abbrev gSb (g : xG) : Nat := g.1.2.1
abbrev gSl (g : xG) : Nat := g.1.2.2.1
abbrev gSx (g : xG) : Nat → Int32 := g.1.2.2.2.1
/-- two strings: the object, its bytes -/
abbrev gK1 (g : xG) : Nat := g.1.2.2.2.2.1
abbrev gV1 (g : xG) : Nat := g.1.2.2.2.2.2.1
abbrev gK2 (g : xG) : Nat := g.1.2.2.2.2.2.2.1
abbrev gV2 (g : xG) : Nat := g.1.2.2.2.2.2.2.2
abbrev gT (g : xG) : Nat → ClassId := g.2.1
abbrev gA (g : xG) : Nat → Prop := g.2.2.1
abbrev ga (g : xG) : List Nat → Nat := g.2.2.2
def up {α : Type} (f : List Nat → Nat → α) (i : List Nat) (k : Nat) (v : α) : List Nat → Nat → α := fun j q => if j = i ∧ q = k then v else f j q
def upR {α : Type} (f : List Nat → Nat → α) (i : List Nat) (r : Nat → α) : List Nat → Nat → α := fun j => if j = i then r else f j
def rq (a : List Nat → Nat) (r : Option (List Nat)) : Value := va_rf (r.map a)
/-- code and length: 0..7 an object of that class, 10 + t an array of the type t -/
def xk (id : List Nat) : Nat × Nat := match id with
  | [0] => (6, 0)
  | [1] => (13, 3)
  | [2] => (14, 4)
  | [3] => (3, 0)
  | [4, _] => (10, 512)
  | [5, _] => (4, 0)
  | [6, _] => (15, 8)
  | [7, _, _] => (5, 0)
  | [8, _, _, _] => (2, 0)
  | [9, _, _, _] => (16, 3)
  | [10, _, _, _, _] => (1, 0)
  | [11, _, f] => (match f with | 0 => (0, 0) | 1 => (10, 4) | 2 => (11, 8) | 3 => (11, 8) | _ => (10, 8))
  | [40] => (10, 2)
  | [41] => (10, 2)
  | [42] => (10, 2)
  | _ => (23, 1)
/-- is field k of class ci a reference -/
def xrf (ci k : Nat) : Bool := match ci with
  | 0 => decide (k < 6)
  | 1 => false
  | 2 => k == 0
  | 3 => decide (k < 4)
  | 4 => k == 1
  | 5 => k == 2 || k == 3
  | 6 => k == 0 || k == 2 || k == 4 || k == 5
  | _ => false
def xv (a : List Nat → Nat) (r : Nat → Int32) (q : Nat → Option (List Nat)) (ci k : Nat) : Value := if xrf ci k = true then rq a (q k) else .int (r k)
def xe (a : List Nat → Nat) (r : Nat → Int32) (q : Nat → Option (List Nat)) (cd j : Nat) : Value := if cd < 13 then .int (r j) else if cd < 22 then rq a (q j) else if cd = 22 then .long (r j).toInt64 else .double (FP.f2d (r j).toUInt32)
def xat (g : xG) (id : List Nat) (r : Nat → Int32) (q : Nat → Option (List Nat)) (H : Heap) : Prop :=
  if (xk id).1 < 10 then ∃ w : vw_C, vwCl[(xk id).1]? = some w ∧ t_OB (ga g id) ((gD g).1 (xk id).1) w.2.2 ((gD g).2 (xk id).1) H (xv (ga g) r q (xk id).1)
  else H[ga g id]? = some (arrV (gT g ((xk id).1 - 10)) (xk id).2 (xe (ga g) r q (xk id).1))
def xR (g : xG) (dm : List Nat → Prop) (I : xI) (F : xF) (n : Nat) (H : Heap) : Prop :=
  H.size = n ∧ (∀ id, dm id → xat g id (I id) (F id) H) ∧ (∀ i j, dm i → dm j → ga g i = ga g j → i = j) ∧ (∀ id, dm id → gA g (ga g id)) ∧ ∀ q, n ≤ q → gA g q
def xty (t : Nat) : FieldType := match t with
  | 0 => .int | 1 => .char | 2 => .int | 3 => .object "CasebookSteps$Plan" | 4 => .object "CasebookSteps$Case" | 5 => .object "CasebookSteps$Step" | _ => .object "CasebookSteps$Condition"
abbrev xT (g : xG) : List (ClassId × FieldType) := (List.range 7).map (fun t => (gT g t, xty t))
theorem xT_at (g : xG) {t : Nat} (h : t < 7) : (xT g)[t]? = some (gT g t, xty t) := by
  rw [List.getElem?_map, List.getElem?_range h]; rfl
theorem up_id {α : Type} {f : List Nat → Nat → α} {i j : List Nat} {k : Nat} {v : α} (h : j ≠ i) : up f i k v j = f j := by
  funext q; simp [up, h]
theorem up_at {α : Type} {f : List Nat → Nat → α} {i : List Nat} {k : Nat} {v : α} : up f i k v i k = v := by simp [up]
theorem up_ne {α : Type} {f : List Nat → Nat → α} {i : List Nat} {k q : Nat} {v : α} (h : q ≠ k) : up f i k v i q = f i q := by simp [up, h]
theorem xat_kept {g : xG} {id : List Nat} {r : Nat → Int32} {q : Nat → Option (List Nat)} {H H1 : Heap} (h : xat g id r q H) (hq : H1[ga g id]? = H[ga g id]?) : xat g id r q H1 := by
  unfold xat at h ⊢
  split
  · rename_i c
    rw [if_pos c] at h
    obtain ⟨w, h1, h2⟩ := h
    exact ⟨w, h1, h2.kept hq⟩
  · rename_i c
    rw [if_neg c] at h
    rw [hq]; exact h
theorem xat_lt {g : xG} {id : List Nat} {r : Nat → Int32} {q : Nat → Option (List Nat)} {H : Heap} (h : xat g id r q H) : ga g id < H.size := by
  unfold xat at h
  split at h
  · obtain ⟨w, h1, cell, h2, -⟩ := h
    exact (Array.getElem?_eq_some_iff.mp h2).1
  · exact (Array.getElem?_eq_some_iff.mp h).1
theorem xat_obj {g : xG} {id : List Nat} {r : Nat → Int32} {q : Nat → Option (List Nat)} {H : Heap} {ci : Nat} {w : vw_C} (hk : xk id = (ci, 0)) (hci : ci < 10) (hc : vwCl[ci]? = some w) : xat g id r q H ↔ t_OB (ga g id) ((gD g).1 ci) w.2.2 ((gD g).2 ci) H (xv (ga g) r q ci) := by
  unfold xat
  rw [hk, if_pos hci]
  constructor
  · rintro ⟨w2, h1, h2⟩
    rw [hc] at h1
    cases h1
    exact h2
  · intro h
    exact ⟨w, hc, h⟩
theorem xat_arr {g : xG} {id : List Nat} {r : Nat → Int32} {q : Nat → Option (List Nat)} {H : Heap} {t L : Nat} (hk : xk id = (10 + t, L)) : xat g id r q H ↔ H[ga g id]? = some (arrV (gT g t) L (xe (ga g) r q (10 + t))) := by
  unfold xat
  rw [hk, if_neg (by simp), Nat.add_sub_cancel_left]
theorem xR.upd {g : xG} {dm : List Nat → Prop} {I I' : xI} {F F' : xF} {n : Nat} {H H1 : Heap} (h : xR g dm I F n H) {id : List Nat} (hd : dm id) (hsz : H1.size = H.size) (ho : ∀ q : Nat, q ≠ ga g id → H1[q]? = H[q]?) (hI : ∀ i, i ≠ id → I' i = I i) (hF : ∀ i, i ≠ id → F' i = F i) (hat : xat g id (I' id) (F' id) H1) : xR g dm I' F' n H1 := by
  obtain ⟨h0, h1, h2, h3, h4⟩ := h
  refine ⟨hsz.trans h0, fun i hi => ?_, h2, h3, h4⟩
  by_cases e : i = id
  · rw [e]; exact hat
  · rw [hI i e, hF i e]
    exact xat_kept (h1 i hi) (ho _ (fun q => e (h2 i id hi hd q)))
theorem xR.congr {g g' : xG} {dm dm' : List Nat → Prop} {I I' : xI} {F F' : xF} {n : Nat} {H : Heap} (h : xR g dm I F n H) (hdm : ∀ i, dm' i → dm i) (hI : ∀ i, dm' i → I' i = I i) (hF : ∀ i, dm' i → F' i = F i) : xR g dm' I' F' n H := by
  obtain ⟨h0, h1, h2, h3, h4⟩ := h
  refine ⟨h0, fun i hi => ?_, fun i j hi hj => h2 i j (hdm i hi) (hdm j hj), fun i hi => h3 i (hdm i hi), h4⟩
  rw [hI i hi, hF i hi]
  exact h1 i (hdm i hi)
theorem xv_upd {a : List Nat → Nat} {r : Nat → Int32} {q : Nat → Option (List Nat)} {ci k : Nat} {x : Int32} (h : xrf ci k = false) (j : Nat) : updV (xv a r q ci) k (.int x) j = xv a (fun y => if y = k then x else r y) q ci j := by
  unfold updV xv
  by_cases e : j = k
  · subst e; simp [h]
  · simp [e]
theorem xv_updq {a : List Nat → Nat} {r : Nat → Int32} {q : Nat → Option (List Nat)} {ci k : Nat} {x : Option (List Nat)} (h : xrf ci k = true) (j : Nat) : updV (xv a r q ci) k (rq a x) j = xv a r (fun y => if y = k then x else q y) ci j := by
  unfold updV xv
  by_cases e : j = k
  · subst e; simp [h]
  · simp [e]
theorem up_row {α : Type} (f : List Nat → Nat → α) (i : List Nat) (k : Nat) (v : α) : up f i k v i = fun y => if y = k then v else f i y := by
  funext y; simp [up]
section X1
variable {p : Program} {l : Launch} {e : Env} {R : Room} {s : State} {m : MethodId} {args : Array Value} {below : List Frame} {meth : Method} {c : Code} {H : Heap} {locs : List Loc} {cells slots : Nat} {Q : State → Prop}
variable {cc : ByteArray} {pc : Nat} {ls : Array Slot} {rest : List Value} {H0 : Heap}
variable {g : xG} {dm : List Nat → Prop} {I : xI} {F : xF} {n : Nat}
/-- getfield -/
theorem x_get (hx : p.tables.exec = Jvm.exec) (hb : c.code = cc) {own ref C : String} {T : u_T} {N ci index : Nat} {Ts : List Cond} (hts : ∀ w ∈ Ts, w.before args s = true) (hin : ∀ w ∈ u_ws C T N, w ∈ Ts) (hown : s.vm.findClass own = some m.cls) (hK : va_K (gD g) vwCl (xT g) s) (hH : xR g dm I F n H) {id : List Nat} (hd : dm id) (hk : xk id = (ci, 0)) (hc : vwCl[ci]? = some (C, T, N)) (hci : ci < 10) (k : Nat) (hkN : k < N) (hlink : (Cond.fieldLink own index ref (T k).2.1 (T k).2.2.1).before args s = true) (hsame : ∀ x, s.fieldFound? (T k).1 (T k).2.1 (T k).2.2.1 = some x → s.fieldFound? ref (T k).2.1 (T k).2.2.1 = some x) {r : Nat → Int32} (hr : I id = r) {v : Value} (hv : xv (ga g) r (F id) ci k = v) (hdg : decode cc pc = .ok (.getfield index, 3))
    (kk : W p l e R s m args below meth c H locs cells slots Q (F0 m (pc + 3) ls (v :: rest))) : W p l e R s m args below meth c H locs cells slots Q (F0 m pc ls (.ref (ga g id) :: rest)) := by
  obtain ⟨cell, q1, q2, q3, q4⟩ := (xat_obj hk hci hc).mp (hH.2.1 id hd)
  obtain ⟨hS, hfc, kC, hkC, hkind⟩ := hK.1 ci _ hc
  obtain ⟨cf, kf, fi, f, hi, hsl⟩ := hS k hkN
  refine W.getf hx hb hown hlink (hsame _ hi) (u_facts hfc hkC (u_lays hts hin hkN) hi).1 q1 (by rw [q3]; exact fun h => by cases h) (v := v) ?_ rfl rfl hdg kk
  rw [hsl, q4 k hkN, hr, hv]
/-- putfield -/
theorem x_put (hx : p.tables.exec = Jvm.exec) (hb : c.code = cc) {own ref C : String} {T : u_T} {N ci index : Nat} {Ts : List Cond} (hts : ∀ w ∈ Ts, w.before args s = true) (hin : ∀ w ∈ u_ws C T N, w ∈ Ts) (ty0 : Nat → FieldType) (hty : ∀ k, k < N → parseFieldDescriptor (T k).2.2.1 = some (ty0 k)) (hnm : ∀ a, a < N → ∀ b, b < N → a ≠ b → (T a).2.1 ≠ (T b).2.1) (hown : s.vm.findClass own = some m.cls) (hK : va_K (gD g) vwCl (xT g) s) (hH : xR g dm I F n H) (hS0 : va_S (gA g) H0 H locs) {id : List Nat} (hd : dm id) (hk : xk id = (ci, 0)) (hc : vwCl[ci]? = some (C, T, N)) (hci : ci < 10) (k : Nat) (hkN : k < N) (hlink : (Cond.fieldLink own index ref (T k).2.1 (T k).2.2.1).before args s = true) (hsame : ∀ x, s.fieldFound? (T k).1 (T k).2.1 (T k).2.2.1 = some x → s.fieldFound? ref (T k).2.1 (T k).2.2.1 = some x) (hfin : (T k).2.2.2 = false ∨ ((T k).2.2.2 = true ∧ meth.name = "<init>" ∧ (T k).1 = own)) {ty : FieldType} {v : Value} (hdsc : parseFieldDescriptor (T k).2.2.1 = some ty) (hn : narrow ty v = v) (hfit : fits ty v = true) {I' : xI} {F' : xF}
    (hI : ∀ i, i ≠ id → I' i = I i) (hF : ∀ i, i ≠ id → F' i = F i) (hu : ∀ j, updV (xv (ga g) (I id) (F id) ci) k v j = xv (ga g) (I' id) (F' id) ci j) (hdg : decode cc pc = .ok (.putfield index, 3))
    (kk : ∀ (H1 : Heap) (locs1 : List Loc), xR g dm I' F' n H1 → va_S (gA g) H0 H1 locs1 → W p l e R s m args below meth c H1 locs1 cells slots Q (F0 m (pc + 3) ls rest)) : W p l e R s m args below meth c H locs cells slots Q (F0 m pc ls (v :: .ref (ga g id) :: rest)) := by
  have hap := va_apart (own := own) hts hin ty0 hty hnm hK hc
  obtain ⟨cell, q1, q2, q3, q4⟩ := (xat_obj hk hci hc).mp (hH.2.1 id hd)
  obtain ⟨hS, hfc, kC, hkC, hkind⟩ := hK.1 ci _ hc
  obtain ⟨cf, kf, fi, f, hi, hsl⟩ := hS k hkN
  have hst := (u_facts hfc hkC (u_lays hts hin hkN) hi).1
  have fin : ∀ (H' : Heap), H'[ga g id]? = some (cell.setSlot f.slot v) → H'.size = H.size → (∀ q : Nat, q ≠ ga g id → H'[q]? = H[q]?) → W p l e R s m args below meth c H' (locs ++ [⟨ga g id, f.slot⟩]) cells slots Q (F0 m (pc + 3) ls rest) := fun H' e1 e2 e3 => by
    rw [hsl] at e1
    exact kk H' _ (hH.upd hd e2 e3 hI hF ((xat_obj hk hci hc).mpr (t_OB.to (V := updV (xv (ga g) (I id) (F id) ci) k v) ⟨_, e1, q2, q3, t_set q4 hap hkN v⟩ (fun j _ => hu j)))) (hS0.put e2 e3 (hH.2.2.2.1 id hd))
  rcases hfin with hf | ⟨hf, hinit, hdecl⟩
  · have hlay := hts _ (hin _ (u_in_lay hkN))
    unfold u_lay at hlay
    rw [if_neg (by rw [hf]; decide)] at hlay
    have h6 := u_store hfc hkC hkind hlay hi hdsc hn hfit
    exact W.putK hx hb (f := f) ⟨hown, hlink, ⟨_, _, _, hsame _ hi⟩, hst⟩ (by rw [q2]; exact h6) q1 q3 (by rw [hsl]; exact k2_hasslot (q4 k hkN)) rfl rfl hdg fin
  · have hlay := hts _ (hin _ (u_in_lay hkN))
    unfold u_lay at hlay
    rw [if_pos hf] at hlay
    have hcf : m.cls = cf := by
      obtain ⟨_, _, c', _, _, _, -, -, hf', -, -, -, hown2, -⟩ := Cond.laysFinal_spec hlay
      have e1 : c' = cf := by have := hi.symm.trans hf'; simp at this; exact this.1.symm
      rw [hdecl] at hown2
      rw [← e1]; exact Option.some.inj (hown.symm.trans hown2)
    have h6 := u_fits hfc hkC hkind (Or.inr hlay) hi hdsc hn hfit
    exact W.putFinK hx hb hown hlink (hsame _ hi) hst hcf hinit (by rw [q2]; exact h6) q1 q3 (by rw [hsl]; exact k2_hasslot (q4 k hkN)) rfl rfl hdg fin
theorem x_in {i : Int32} {j L : Nat} (hij : i = nI j) (hj : j < L) (hL : L < 2 ^ 31) : vp_in i L ∧ i.toNatClampNeg = j := by
  subst hij
  exact ⟨vp_in_nI hj hL, nI_clamp (by omega)⟩
theorem x_cell {g : xG} {dm : List Nat → Prop} {I : xI} {F : xF} {n : Nat} {H : Heap} (hH : xR g dm I F n H) {id : List Nat} (hd : dm id) {t L : Nat} (hk : xk id = (10 + t, L)) : H[ga g id]? = some (arrV (gT g t) L (xe (ga g) (I id) (F id) (10 + t))) := (xat_arr hk).mp (hH.2.1 id hd)
theorem x_iald (hx : p.tables.exec = Jvm.exec) (hb : c.code = cc) (hK : va_K (gD g) vwCl (xT g) s) (hH : xR g dm I F n H) {id : List Nat} (hd : dm id) {L : Nat} (hk : xk id = (10, L)) {i : Int32} {r : Nat → Int32} (hr : I id = r) (j : Nat) (hij : i = nI j) (hj : j < L) (hL : L < 2 ^ 31) (hdg : decode cc pc = .ok (.iaload, 1))
    (kk : W p l e R s m args below meth c H locs cells slots Q (F0 m (pc + 1) ls (.int (r j) :: rest))) : W p l e R s m args below meth c H locs cells slots Q (F0 m pc ls (.int i :: .ref (ga g id) :: rest)) := by
  obtain ⟨h1, h2⟩ := x_in hij hj hL
  have hc := x_cell hH hd (t := 0) hk
  subst hr
  exact W.iald (v := .int (I id j)) hx hb hc ((hK.2 0 _ (xT_at g (by decide))).1 L _) (fun q => by cases q) (by rw [arrV_size]; exact h1) (by rw [h2, arrV_read _ _ hj]; rfl) rfl rfl hdg kk
theorem x_cald (hx : p.tables.exec = Jvm.exec) (hb : c.code = cc) (hK : va_K (gD g) vwCl (xT g) s) (hH : xR g dm I F n H) {id : List Nat} (hd : dm id) {L : Nat} (hk : xk id = (11, L)) {i : Int32} {r : Nat → Int32} (hr : I id = r) (j : Nat) (hij : i = nI j) (hj : j < L) (hL : L < 2 ^ 31) (hdg : decode cc pc = .ok (.caload, 1))
    (kk : W p l e R s m args below meth c H locs cells slots Q (F0 m (pc + 1) ls (.int (r j) :: rest))) : W p l e R s m args below meth c H locs cells slots Q (F0 m pc ls (.int i :: .ref (ga g id) :: rest)) := by
  obtain ⟨h1, h2⟩ := x_in hij hj hL
  have hc := x_cell hH hd (t := 1) hk
  subst hr
  exact W.cald (v := .int (I id j)) hx hb hc ((hK.2 1 _ (xT_at g (by decide))).1 L _) (fun q => by cases q) (by rw [arrV_size]; exact h1) (by rw [h2, arrV_read _ _ hj]; rfl) rfl rfl hdg kk
theorem x_aald (hx : p.tables.exec = Jvm.exec) (hb : c.code = cc) (hK : va_K (gD g) vwCl (xT g) s) (hH : xR g dm I F n H) {id : List Nat} (hd : dm id) (t : Nat) {L : Nat} (hk : xk id = (10 + t, L)) (ht : 3 ≤ t ∧ t < 7) {i : Int32} (j : Nat) (hij : i = nI j) (hj : j < L) (hL : L < 2 ^ 31) {v : Value} (hv : rq (ga g) (F id j) = v) (hdg : decode cc pc = .ok (.aaload, 1))
    (kk : W p l e R s m args below meth c H locs cells slots Q (F0 m (pc + 1) ls (v :: rest))) : W p l e R s m args below meth c H locs cells slots Q (F0 m pc ls (.int i :: .ref (ga g id) :: rest)) := by
  obtain ⟨h1, h2⟩ := x_in hij hj hL
  have hc := x_cell hH hd (t := t) hk
  subst hv
  refine W.aald (v := rq (ga g) (F id j)) (ty := xty t) hx hb hc ((hK.2 t _ (xT_at g (by omega))).1 L _) ?_ (fun q => by cases q) (by rw [arrV_size]; exact h1) ?_ rfl rfl hdg kk
  · rcases (show t = 3 ∨ t = 4 ∨ t = 5 ∨ t = 6 by omega) with h | h | h | h <;> subst h <;> rfl
  · rw [h2, arrV_read _ _ hj]
    unfold xe
    rw [if_neg (by omega), if_pos (by omega)]
theorem x_arrset {a : List Nat → Nat} {cA : ClassId} {L j : Nat} {r r' : Nat → Int32} {q q' : Nat → Option (List Nat)} {cd : Nat} {v : Value} (h : ∀ y, updV (xe a r q cd) j v y = xe a r' q' cd y) : (arrV cA L (xe a r q cd)).setSlot j v = arrV cA L (xe a r' q' cd) := by
  rw [arrV_store]
  exact congrArg (arrV cA L) (funext h)
theorem xe_upd {a : List Nat → Nat} {I : xI} {F : xF} {id : List Nat} {cd k : Nat} {x : Int32} (h : cd < 13) (y : Nat) : updV (xe a (I id) (F id) cd) k (.int x) y = xe a (up I id k x id) (F id) cd y := by
  unfold updV xe
  by_cases e : y = k
  · subst e; simp [h, up]
  · simp [e, up]
theorem xe_updq {a : List Nat → Nat} {I : xI} {F : xF} {id : List Nat} {cd k : Nat} {x : Option (List Nat)} (h : 13 ≤ cd ∧ cd < 22) (y : Nat) : updV (xe a (I id) (F id) cd) k (rq a x) y = xe a (I id) (up F id k x id) cd y := by
  unfold updV xe
  by_cases e : y = k
  · subst e; rw [if_pos rfl, if_neg (by omega), if_pos (by omega)]; simp [up]
  · simp [e, up]
theorem x_iast (hx : p.tables.exec = Jvm.exec) (hb : c.code = cc) (hK : va_K (gD g) vwCl (xT g) s) (hH : xR g dm I F n H) (hS : va_S (gA g) H0 H locs) {id : List Nat} (hd : dm id) {L : Nat} (hk : xk id = (10, L)) {i x : Int32} (j : Nat) (hij : i = nI j) (hj : j < L) (hL : L < 2 ^ 31) {I' : xI} (hI : up I id j x = I') (hdg : decode cc pc = .ok (.iastore, 1))
    (kk : ∀ (H1 : Heap) (locs1 : List Loc), xR g dm I' F n H1 → va_S (gA g) H0 H1 locs1 → W p l e R s m args below meth c H1 locs1 cells slots Q (F0 m (pc + 1) ls rest)) : W p l e R s m args below meth c H locs cells slots Q (F0 m pc ls (.int x :: .int i :: .ref (ga g id) :: rest)) := by
  obtain ⟨h1, h2⟩ := x_in hij hj hL
  have hc := x_cell hH hd (t := 0) hk
  subst hI
  refine W.iast hx hb hc ((hK.2 0 _ (xT_at g (by decide))).1 L _) (fun q => by cases q) (by rw [arrV_size]; exact h1) rfl rfl hdg fun H1 e z oq => ?_
  refine kk H1 _ (hH.upd hd z oq (fun i hi => up_id hi) (fun _ _ => rfl) ((xat_arr (t := 0) hk).mpr ?_)) (hS.put z oq (hH.2.2.2.1 id hd))
  rw [e, h2]
  exact congrArg some (x_arrset (fun y => xe_upd (by decide) y))
theorem x_cast (hx : p.tables.exec = Jvm.exec) (hb : c.code = cc) (hK : va_K (gD g) vwCl (xT g) s) (hH : xR g dm I F n H) (hS : va_S (gA g) H0 H locs) {id : List Nat} (hd : dm id) {L : Nat} (hk : xk id = (11, L)) {i x : Int32} (j : Nat) (hij : i = nI j) (hj : j < L) (hL : L < 2 ^ 31) (hn : narrow .char (.int x) = .int x) {I' : xI} (hI : up I id j x = I') (hdg : decode cc pc = .ok (.castore, 1))
    (kk : ∀ (H1 : Heap) (locs1 : List Loc), xR g dm I' F n H1 → va_S (gA g) H0 H1 locs1 → W p l e R s m args below meth c H1 locs1 cells slots Q (F0 m (pc + 1) ls rest)) : W p l e R s m args below meth c H locs cells slots Q (F0 m pc ls (.int x :: .int i :: .ref (ga g id) :: rest)) := by
  obtain ⟨h1, h2⟩ := x_in hij hj hL
  have hc := x_cell hH hd (t := 1) hk
  subst hI
  refine W.cast hx hb hc ((hK.2 1 _ (xT_at g (by decide))).1 L _) (fun q => by cases q) (by rw [arrV_size]; exact h1) rfl rfl hdg fun H1 e z oq => ?_
  refine kk H1 _ (hH.upd hd z oq (fun i hi => up_id hi) (fun _ _ => rfl) ((xat_arr (t := 1) hk).mpr ?_)) (hS.put z oq (hH.2.2.2.1 id hd))
  rw [e, h2, hn]
  exact congrArg some (x_arrset (fun y => xe_upd (by decide) y))
/-- an object into an array of its class -/
theorem x_aast (hx : p.tables.exec = Jvm.exec) (hb : c.code = cc) (hK : va_K (gD g) vwCl (xT g) s) (hH : xR g dm I F n H) (hS : va_S (gA g) H0 H locs) {id : List Nat} (hd : dm id) (t : Nat) {L : Nat} (hk : xk id = (10 + t, L)) (ht : 3 ≤ t ∧ t < 7) {id2 : List Nat} (hd2 : dm id2) {ci : Nat} (hk2 : xk id2 = (ci, 0)) (hci : ci < 10) {w : vw_C} (hc2 : vwCl[ci]? = some w) (hty : xty t = .object w.1) {i : Int32} (j : Nat) (hij : i = nI j) (hj : j < L) (hL : L < 2 ^ 31) {F' : xF} (hF : up F id j (some id2) = F') (hdg : decode cc pc = .ok (.aastore, 1))
    (kk : ∀ (H1 : Heap) (locs1 : List Loc), xR g dm I F' n H1 → va_S (gA g) H0 H1 locs1 → W p l e R s m args below meth c H1 locs1 cells slots Q (F0 m (pc + 1) ls rest)) : W p l e R s m args below meth c H locs cells slots Q (F0 m pc ls (.ref (ga g id2) :: .int i :: .ref (ga g id) :: rest)) := by
  obtain ⟨h1, h2⟩ := x_in hij hj hL
  have hc := x_cell hH hd (t := t) hk
  subst hF
  obtain ⟨cellV, g1, g2, g3, -⟩ := (xat_obj hk2 hci hc2).mp (hH.2.1 id2 hd2)
  have hcls := (hK.1 ci w hc2).2
  have hRA := (hK.2 t _ (xT_at g (by omega))).2
  rw [hty] at hRA
  obtain ⟨kA, comp, k1, k2, k3, -⟩ := hRA
  have hcomp : comp = (gD g).1 ci := Option.some.inj (k3.symm.trans hcls.1)
  subst hcomp
  have hcls' := hcls
  obtain ⟨kC, hkC, -⟩ := hcls.2
  refine W.aast hx hb hc (fun q h => by cases h) (fun h => by cases h) k1 k2 rfl hkC ⟨fun q => h1 (Or.inl q), by rw [arrV_size, h2]; exact hj⟩ g1 (fun q h => by rw [g3] at h; cases h) (by rw [g2]; exact hkC) (by rw [g2]; exact va_assign hcls') rfl rfl hdg fun H1 e z oq => ?_
  refine kk H1 _ (hH.upd hd z oq (fun _ _ => rfl) (fun i hi => up_id hi) ((xat_arr (t := t) hk).mpr ?_)) (hS.put z oq (hH.2.2.2.1 id hd))
  rw [e, h2]
  exact congrArg some (x_arrset (v := rq (ga g) (some id2)) (fun y => xe_updq (by omega) y))
/-- behind an allocation: the new id's cell is there -/
theorem xR.push (hH : xR g dm I F n H) {id : List Nat} (hid : ¬ dm id) (had : ga g id = n) {H1 : Heap} (z : H1.size = H.size + 1) (o : ∀ q : Nat, q < H.size → H1[q]? = H[q]?) {I' : xI} {F' : xF} (hI : ∀ i, i ≠ id → I' i = I i) (hF : ∀ i, i ≠ id → F' i = F i) (hat : xat g id (I' id) (F' id) H1) : xR g (fun i => i = id ∨ dm i) I' F' (n + 1) H1 := by
  obtain ⟨h0, h1, h2, h3, h4⟩ := hH
  have lt : ∀ i, dm i → ga g i < H.size := fun i hi => xat_lt (h1 i hi)
  refine ⟨by omega, fun i hi => ?_, fun i j hi hj hq => ?_, fun i hi => ?_, fun q hq => h4 q (by omega)⟩
  · rcases hi with rfl | hi
    · exact hat
    · have e : i ≠ id := fun q => hid (q ▸ hi)
      rw [hI i e, hF i e]
      exact xat_kept (h1 i hi) (o _ (lt i hi))
  · rcases hi with rfl | hi <;> rcases hj with rfl | hj
    · rfl
    · have := lt j hj; omega
    · have := lt i hi; omega
    · exact h2 i j hi hj hq
  · rcases hi with rfl | hi
    · rw [had]; exact h4 n (Nat.le_refl n)
    · exact h3 i hi
theorem x_Spush {A : Nat → Prop} {H1 : Heap} (hS : va_S A H0 H locs) (z : H1.size = H.size + 1) (o : ∀ q : Nat, q < H.size → H1[q]? = H[q]?) : va_S A H0 H1 locs := ⟨Nat.le_trans hS.1 (by omega), fun x h1 h2 => (o x (Nat.lt_of_lt_of_le h1 hS.1)).trans (hS.2.1 x h1 h2), hS.2.2⟩
theorem upR_at {α : Type} {f : List Nat → Nat → α} {i : List Nat} {r : Nat → α} : upR f i r i = r := by simp [upR]
theorem upR_id {α : Type} {f : List Nat → Nat → α} {i j : List Nat} {r : Nat → α} (h : j ≠ i) : upR f i r j = f j := by simp [upR, h]
/-- new C -/
theorem x_new (hx : p.tables.exec = Jvm.exec) (hb : c.code = cc) {own C : String} {T : u_T} {N ci index : Nat} {Ts : List Cond} (hts : ∀ w ∈ Ts, w.before args s = true) (hin : ∀ w ∈ u_ws C T N, w ∈ Ts) (ty : Nat → FieldType) (hty : ∀ k, k < N → parseFieldDescriptor (T k).2.2.1 = some (ty k)) (hown : s.vm.findClass own = some m.cls) (hcl : (Cond.classLink own index C).before args s = true) (hinst : (Cond.instantiable C N).before args s = true) (hini : (Cond.initialized C).before args s = true)
    (hK : va_K (gD g) vwCl (xT g) s) (hH : xR g dm I F n H) (hS : va_S (gA g) H0 H locs) (id : List Nat) (hid : ¬ dm id) (had : ga g id = n) (hk : xk id = (ci, 0)) (hci : ci < 10) (hc : vwCl[ci]? = some (C, T, N)) (hfs : ∀ j, j < N → defaultValue (ty j) = xv (ga g) (fun _ => 0) (fun _ => none) ci j) (hcells : cells + 1 ≤ R.cells) (hslots : slots + N ≤ R.slots) (hdg : decode cc pc = .ok (.new index, 3))
    (kk : ∀ (H1 : Heap), xR g (fun i => i = id ∨ dm i) (upR I id (fun _ => 0)) (upR F id (fun _ => none)) (n + 1) H1 → va_S (gA g) H0 H1 locs →
      W p l e R s m args below meth c H1 locs (cells + 1) (slots + N) Q (F0 m (pc + 3) ls (.ref (ga g id) :: rest))) : W p l e R s m args below meth c H locs cells slots Q (F0 m pc ls rest) := by
  have hKn := hK.1 ci _ hc
  have hn : H.size = n := hH.1
  refine W.newcK hx hb hown hcl hinst hini rfl hdg hcells hslots hKn.2.1 rfl fun H1 kC hkC e1 z1 o1 => ?_
  rw [hn, ← had]
  refine kk H1 (hH.push hid had z1 o1 (fun i hi => upR_id hi) (fun i hi => upR_id hi) ((xat_obj hk hci hc).mpr ?_)) (x_Spush hS z1 o1)
  rw [upR_at, upR_at, had, ← hn]
  exact (u_born ty hts hin hKn hkC e1 hty).to hfs
/-- new int[], char[], boolean[] -/
theorem x_newa (hx : p.tables.exec = Jvm.exec) (hb : c.code = cc) {atype : ArrayType} (harr : (Cond.arrayClass (newarray.typeOf atype)).before args s = true) (t : Nat) (ht : t < 3) (hty : newarray.typeOf atype = xty t) (hK : va_K (gD g) vwCl (xT g) s) (hH : xR g dm I F n H) (hS : va_S (gA g) H0 H locs) (id : List Nat) (hid : ¬ dm id) (had : ga g id = n) {L : Nat} (hk : xk id = (10 + t, L))
    {x : Int32} (hx0 : x = nI L) (hL : L ≤ 512) (hcells : cells + 1 ≤ R.cells) (hslots : slots + L ≤ R.slots) (hdg : decode cc pc = .ok (.newarray atype, 2))
    (kk : ∀ (H1 : Heap), xR g (fun i => i = id ∨ dm i) (upR I id (fun _ => 0)) (upR F id (fun _ => none)) (n + 1) H1 → va_S (gA g) H0 H1 locs →
      W p l e R s m args below meth c H1 locs (cells + 1) (slots + L) Q (F0 m (pc + 2) ls (.ref (ga g id) :: rest))) : W p l e R s m args below meth c H locs cells slots Q (F0 m pc ls (.int x :: rest)) := by
  have hn : H.size = n := hH.1
  subst hx0
  have hcb : componentBytes (newarray.typeOf atype) ≤ 8 := by cases atype <;> decide
  refine va_newaK hx hb harr rfl hdg rfl (nI_pos (by omega)) (nI_clamp (by omega)) (by have := Nat.mul_le_mul hL hcb; omega) hcells hslots rfl fun H1 cA e1 z1 o1 hAr hNm => ?_
  have hcA : cA = gT g t := by
    have h := (hK.2 t _ (xT_at g (by omega))).2
    rw [hty] at hNm
    rcases (show t = 0 ∨ t = 1 ∨ t = 2 by omega) with e | e | e <;> subst e <;> exact Option.some.inj (hNm.symm.trans h)
  rw [hn, ← had]
  refine kk H1 (hH.push hid had z1 o1 (fun i hi => upR_id hi) (fun i hi => upR_id hi) ((xat_arr hk).mpr ?_)) (x_Spush hS z1 o1)
  rw [upR_at, upR_at, had, ← hn, e1, hcA]
  congr 2
  funext j
  unfold xe
  rw [if_pos (by omega), hty]
  rcases (show t = 0 ∨ t = 1 ∨ t = 2 by omega) with e | e | e <;> subst e <;> rfl
/-- new C[] -/
theorem x_anew (hx : p.tables.exec = Jvm.exec) (hb : c.code = cc) {own C : String} {index : Nat} (hown : s.vm.findClass own = some m.cls) (hclink : (Cond.classLink own index C).before args s = true) (hover : (Cond.arrayOver (.object C)).before args s = true) (t : Nat) (ht : 3 ≤ t ∧ t < 7) (hty : xty t = .object C) (hK : va_K (gD g) vwCl (xT g) s) (hH : xR g dm I F n H) (hS : va_S (gA g) H0 H locs) (id : List Nat) (hid : ¬ dm id) (had : ga g id = n) {L : Nat} (hk : xk id = (10 + t, L))
    {x : Int32} (hx0 : x = nI L) (hL : L ≤ 512) (hcells : cells + 1 ≤ R.cells) (hslots : slots + L ≤ R.slots) (hdg : decode cc pc = .ok (.anewarray index, 3))
    (kk : ∀ (H1 : Heap), xR g (fun i => i = id ∨ dm i) (upR I id (fun _ => 0)) (upR F id (fun _ => none)) (n + 1) H1 → va_S (gA g) H0 H1 locs →
      W p l e R s m args below meth c H1 locs (cells + 1) (slots + L) Q (F0 m (pc + 3) ls (.ref (ga g id) :: rest))) : W p l e R s m args below meth c H locs cells slots Q (F0 m pc ls (.int x :: rest)) := by
  have hn : H.size = n := hH.1
  subst hx0
  have hcl : (nI L).toNatClampNeg = L := nI_clamp (by omega)
  refine W.anew hx hb hown hclink hover rfl hdg rfl (nI_pos (by omega)) (by rw [hcl]; omega) hcells (by rw [hcl]; exact hslots) fun cA kA comp f1 f2 f3 f4 => ?_
  rw [hcl]
  generalize hH1 : H.push ({ cls := cA, slots := Array.replicate L .null, vm := .none } : Cell) = H1
  have z1 : H1.size = H.size + 1 := by rw [← hH1, Array.size_push]
  have e1 : H1[H.size]? = some (arrV cA L (fun _ => .null)) := by rw [← hH1, Array.getElem?_push_size, ← arrV_new]
  have o1 : ∀ q : Nat, q < H.size → H1[q]? = H[q]? := fun q hq => by rw [← hH1, Array.getElem?_push, if_neg (Nat.ne_of_lt hq)]
  have hcA : cA = gT g t := by
    have h := (hK.2 t _ (xT_at g (by omega))).2
    rw [hty] at h
    obtain ⟨kA', comp', h1, h2, h3, h4⟩ := h
    first
      | exact Option.some.inj (f1.symm.trans h4)
      | exact Option.some.inj (f4.symm.trans h4)
  show W p l e R s m args below meth c H1 locs (cells + 1) (slots + L) Q (F0 m (pc + 3) ls (.ref H.size :: rest))
  rw [hn, ← had]
  refine kk H1 (hH.push hid had z1 o1 (fun i hi => upR_id hi) (fun i hi => upR_id hi) ((xat_arr hk).mpr ?_)) (x_Spush hS z1 o1)
  rw [upR_at, upR_at, had, ← hn, e1, hcA]
  congr 2
  funext j
  unfold xe
  rw [if_neg (by omega), if_pos (by omega)]
  rfl
end X1
/-! THE ENVIRONMENT of every contract: the classes' tables, the tables' words that no run changes, the strings, what a throw needs -/
def fl : List Cond := lw_tbl.filter (fun w => goodWord w || (w.onTables && w.keepsFace))
def xAO : List String := ["CasebookSteps$Plan", "CasebookSteps$Case", "CasebookSteps$Step", "CasebookSteps$Condition"]
def xNest : List (String × Nat × MethodName × String) := [("CasebookSteps", 30, yX3_init, "CasebookSteps"), ("CasebookSteps$Step", 11, yX2_init, "CasebookSteps"), ("CasebookSteps$Case", 53, yX6_isDatum, "CasebookSteps")]
def xStr : List (Nat × String) := [(47, "there are 3 plans"), (294, "no such plan"), (58, "no such kind"), (65, "the parent is no stage of the plan"), (285, "the plan is used"), (73, "the plan has 8 steps"), (299, "no such step"), (280, "no such condition"), (283, "the step has 3 such conditions"), (116, "a milestone has no exit conditions"), (287, "the step is not a task"), (130, "the limit is not between 1 and 99"), (135, "the step is not a milestone"), (143, "the plan has no steps"), (145, "there are 4 cases"), (297, "no such case"), (158, "no such datum"), (163, "the value is not between -99 and 99"), (172, "no such event"), (188, "the task is not active"), (193, "the plan has fewer steps than that of the case"), (198, "the number of days is not between 1 and 10"), (238, "no active task that is not late"), (245, "the step has no such condition")]
/-- what the law's own methods want besides: what no handler of theirs takes, two strings, the script -/
def xNl : List (String × String) := [("java/lang/IndexOutOfBoundsException", "java/lang/IllegalStateException"), ("java/lang/IllegalArgumentException", "java/lang/IllegalStateException"), ("java/lang/UnsupportedOperationException", "java/lang/IllegalStateException"), ("java/lang/IllegalStateException", "java/lang/IndexOutOfBoundsException"), ("java/lang/IllegalArgumentException", "java/lang/IndexOutOfBoundsException"), ("java/lang/UnsupportedOperationException", "java/lang/IndexOutOfBoundsException"), ("java/util/NoSuchElementException", "java/lang/IndexOutOfBoundsException"), ("java/lang/IllegalStateException", "java/lang/IllegalArgumentException"), ("java/lang/UnsupportedOperationException", "java/lang/IllegalArgumentException"), ("java/lang/IllegalStateException", "java/lang/UnsupportedOperationException")]
def xE2 (g : xG) (U : State) (H : Heap) : Prop :=
  (∀ q ∈ xNl, va_Nc q.1 q.2 U) ∧ va_Z "java/lang/String" "COMPACT_STRINGS" "Z" (.int 1) (gA g) U H ∧ va_Zq "jdk/internal/util/Preconditions" "SIOOBE_FORMATTER" "Ljava/util/function/BiFunction;" (gA g) U H ∧
  (vk_S 1 [4] [[115, 116, 116, 109]] (fun _ => gK1 g) (fun _ => gV1 g) (gA g) U H ∧ vk_R "CasebookStepsLaw" 190 "sttm" (gK1 g) U) ∧ (vk_S 1 [5] [[100, 108, 101, 99, 116]] (fun _ => gK2 g) (fun _ => gV2 g) (gA g) U H ∧ vk_R "CasebookStepsLaw" 202 "dlect" (gK2 g) U) ∧
  va_T .int (gSb g) (gSl g) (fun j => .int (gSx g j)) (gA g) U H
theorem xE2.at {g : xG} {s U : State} {H : Heap} (h : xE2 g s H) (hW : s.WarmedH U.vm) : xE2 g U H := by
  obtain ⟨h1, h2, h3, ⟨a1, b1⟩, ⟨a2, b2⟩, h6⟩ := h
  exact ⟨fun q hq => (h1 q hq).moved hW.alike, va_Z.moved hW.alike h2, va_Zq.moved hW.alike h3, ⟨vk_S.moved hW.alike a1, vk_R.warm hW b1⟩, ⟨vk_S.moved hW.alike a2, vk_R.warm hW b2⟩, va_T.moved hW.alike h6⟩
theorem xE2.kept {g : xG} {s : State} {H H1 : Heap} {locs : List Loc} (h : xE2 g s H) (hS : va_S (gA g) H H1 locs) : xE2 g s H1 := by
  obtain ⟨h1, h2, h3, ⟨a1, b1⟩, ⟨a2, b2⟩, h6⟩ := h
  exact ⟨h1, h2.kept hS.2.1, h3.kept hS.2.1, ⟨a1.kept hS.2.1, b1⟩, ⟨a2.kept hS.2.1, b2⟩, h6.kept hS.2.1⟩
def xE (g : xG) (U : State) (H : Heap) : Prop :=
  va_K (gD g) vwCl (xT g) U ∧ (∀ w ∈ fl, w.before #[] U = true) ∧ (∀ C ∈ xAO, va_AO C U) ∧ (∀ q ∈ xNest, va_Nw (.methodLinkNest q.1 q.2.1 q.2.2.1 q.2.2.2) U) ∧ (∀ q ∈ xStr, ∃ a, vk_R "CasebookSteps" q.1 q.2 a U) ∧
  vx_Zq Bundle.tN "UNASSIGNED_STACK" Bundle.steD (gA g) U H ∧ vx_Zq Bundle.tN "SUPPRESSED_SENTINEL" Bundle.listD (gA g) U H ∧ xE2 g U H
theorem xE.at {g : xG} {s U : State} {H : Heap} (h : xE g s H) (hW : s.WarmedH U.vm) : xE g U H := by
  obtain ⟨h1, h2, h3, h4, h5, h6, h7, h8⟩ := h
  refine ⟨va_K.moved hW.alike h1, fun w hw => ?_, fun C hC => va_AO.moved hW.alike (h3 C hC), fun q hq => va_Nw.warmM hW (h4 q hq), fun q hq => ?_, vx_Zq.moved hW.alike h6, vx_Zq.moved hW.alike h7, h8.at hW⟩
  · have hk := (List.mem_filter.mp hw).2
    have hb := h2 w hw
    rw [Bool.or_eq_true, Bool.and_eq_true] at hk
    rcases hk with hk | ⟨hk1, hk2⟩
    · exact word_at hW (good_of_word hk) hb
    · exact va_tabs hk1 (rfl : (s.setVm U.vm).vm = U.vm) (Cond.before_shiftedFace (State.Shifted.of_warmed hW) w hk2 hb)
  · obtain ⟨a, ha⟩ := h5 q hq
    exact ⟨a, vk_R.warm hW ha⟩
theorem xE.kept {g : xG} {s : State} {H H1 : Heap} {locs : List Loc} (h : xE g s H) (hS : va_S (gA g) H H1 locs) : xE g s H1 := by
  obtain ⟨h1, h2, h3, h4, h5, h6, h7, h8⟩ := h
  exact ⟨h1, h2, h3, h4, h5, vx_Zq.kept h6 hS.2.1, vx_Zq.kept h7 hS.2.1, h8.kept hS⟩
theorem xE.tf {g : xG} {s : State} {H : Heap} (h : xE g s H) (args : Array Value) : ∀ w ∈ fl, w.before args s = true := fun w hw => by
  have hk := (List.mem_filter.mp hw).2
  have hb := h.2.1 w hw
  rw [Bool.or_eq_true, Bool.and_eq_true] at hk
  rcases hk with hk | ⟨hk1, hk2⟩
  · exact word_at (State.WarmedH.refl s) (good_of_word hk) hb
  · exact va_tabs hk1 rfl hb
theorem gl_fl {w : Cond} (h : w ∈ gl) : w ∈ fl := by
  obtain ⟨h1, h2⟩ := List.mem_filter.mp h
  exact List.mem_filter.mpr ⟨h1, by rw [h2]; rfl⟩
theorem xE.ts {g : xG} {s : State} {H : Heap} (h : xE g s H) (args : Array Value) : ∀ w ∈ gl, w.before args s = true := fun w hw => h.tf args w (gl_fl hw)
/-- what a call needs of the callee's name -/
def xCal (y : MethodName) (bytes : ByteArray) (maxL : Nat) (ret : Option FieldType) (n : Nat) : Prop := Cond.code y bytes maxL ret ∈ gl ∧ Cond.initialized y.cls ∈ gl ∧ (y.cls ≠ "java/lang/invoke/MethodHandle" ∧ y.cls ≠ "java/lang/invoke/VarHandle" ∧ (parseMethodDescriptor y.desc).map (fun d => d.parameters.length) = some n)
def xCalV (y : MethodName) (bytes : ByteArray) (maxL : Nat) (ret : Option FieldType) (n : Nat) : Prop := xCal y bytes maxL ret n ∧ Cond.instanceMethod y ∈ gl ∧ Cond.selects y.cls y y ∈ gl
def xCalS (y : MethodName) (bytes : ByteArray) (maxL : Nat) (ret : Option FieldType) (n : Nat) : Prop := xCal y bytes maxL ret n ∧ Cond.static y ∈ gl
def xCalI (y : MethodName) (bytes : ByteArray) (maxL : Nat) (n : Nat) : Prop := xCal y bytes maxL none n ∧ Cond.instanceMethod y ∈ gl ∧ y.name = "<init>"
abbrev xws (y : MethodName) (bytes : ByteArray) (maxL : Nat) (ret : Option FieldType) : List Cond := [Cond.code y bytes maxL ret]
theorem xCal.good {y : MethodName} {bytes : ByteArray} {maxL : Nat} {ret : Option FieldType} {n : Nat} (h : xCal y bytes maxL ret n) : GoodIn gl (xws y bytes maxL ret) := fun w hw => by
  rw [List.mem_singleton.mp hw]
  exact ⟨h.1, good_of_word rfl⟩
/-! CONTRACTS over the logical heap: the answer v, the heap before and behind -/
def xPc (g : xG) (av : List Value) (Pre : Heap → Prop) : Array Value → State → Prop := va_Pc av (fun U => Pre U.heap ∧ xE g U U.heap)
def xQc (g : xG) (v : Option Value) (Post : Heap → Prop) : Array Value → State → Outcome → State → Prop := fun _ st o t => (o = .returned v ∧ Post t.heap) ∧ va_F (gA g) st t
def xM (l : Launch) (y : MethodName) (ws : List Cond) (fr lo : Nat) (g : xG) (av : List Value) (Pre : Heap → Prop) (v : Option Value) (Post : Heap → Prop) (mc ms : Nat) : Prop := Met l y ws { frames := fr, cells := mc, slots := ms, locals := lo } (xPc g av Pre) (xQc g v Post) mc ms (gA g)
theorem xPc_blind (g : xG) (av : List Value) (Pre : Heap → Prop) : FrameBlind (xPc g av Pre) := fun a U j mk q => ⟨q.1, q.2.1, q.2.2.at (U := U.calling j mk a) (State.WarmedH.refl U)⟩
theorem xM.of {l : Launch} {y : MethodName} {fr lo : Nat} {g : xG} {av : List Value} {Pre : Heap → Prop} {v : Option Value} {Post : Heap → Prop} {mc ms : Nat} {cc : ByteArray} {maxL : Nat} {ret : Option FieldType}
    (hy : plainName y.cls = true) (hsz : (lg_sl av).length ≤ maxL)
    (body : ∀ (p : Program) (e : Env) (s : State) (m : MethodId) (below : List Frame) (meth : Method) (c : Code) (ls : Array Slot), p.tables.exec = Jvm.exec → c.code = cc → meth.sig.returnType = ret → s.vm.findClass y.cls = some m.cls → meth.locks = false → c.maxLocals = maxL → meth.name = y.name →
      xE g s s.heap → va_K (gD g) vwCl (xT g) s → (∀ w ∈ gl, w.before av.toArray s = true) → Pre s.heap → va_S (gA g) s.heap s.heap [] → lv_has ls maxL (lv_args 0 av) →
      W p l e { frames := fr, cells := mc, slots := ms, locals := lo } s m av.toArray below meth c s.heap [] 0 0 (MQ below (xQc g v Post) av.toArray s mc ms (gA g)) (F0 m 0 ls [])) : xM l y (xws y cc maxL ret) fr lo g av Pre v Post mc ms := by
  refine Met.ofW (cc := cc) (maxL := maxL) (ret := ret) hy rfl ?_
  intro p e s m args below meth c s₁ B hml hv
  obtain ⟨rfl, hP, hE⟩ := hv
  have hl := lv_entry av (n := maxL) hsz
  rw [lg_entry_eq]
  exact body p e s m below meth c _ B.exec B.bytes B.returns (findClass_of_methodNamed B.named) B.notSynchronized hml (name_of_methodNamed B.named B.method).1 hE hE.1 (hE.ts _) hP va_S.rf hl
section X2
variable {p : Program} {l : Launch} {e : Env} {R : Room} {s : State} {m : MethodId} {args : Array Value} {below : List Frame} {meth : Method} {c : Code} {H : Heap} {locs : List Loc} {cells slots : Nat} {Q : State → Prop}
variable {cc : ByteArray} {pc : Nat} {ls : Array Slot} {rest st0 : List Value} {H0 : Heap} {g : xG} {mc ms : Nat}
theorem x_cont {v : Option Value} {Post : Heap → Prop} {a : Array Value} (hr : va_Run p l e R s m args below meth c H locs cells slots mc ms (F0 m pc ls st0) rest (xQc g v Post a) (gA g)) (hS : va_S (gA g) H0 H locs)
    (kk : ∀ (H1 : Heap) (locs1 : List Loc), Post H1 → va_S (gA g) H0 H1 locs1 → W p l e R s m args below meth c H1 locs1 (cells + mc) (slots + ms) Q (F0 m (pc + 3) ls (v.toList ++ rest))) : W p l e R s m args below meth c H locs cells slots Q (F0 m pc ls st0) := by
  intro T hT X
  obtain ⟨v', st₀, t, T', L, h0, X', hL, e1, e2, ⟨⟨hv, hp⟩, hz, hk⟩, st⟩ := hr T hT X
  cases hv
  rw [h0] at hz hk
  obtain ⟨t2, a1, b1⟩ := kk T'.heap (locs ++ L) (by rw [e1]; exact hp)
    ⟨Nat.le_trans hS.1 (by rw [e1]; exact hz), fun q h1 h2 => by rw [e1, hk q (Nat.lt_of_lt_of_le h1 hS.1) h2]; exact hS.2.1 q h1 h2, fun q hq => by
      rcases List.mem_append.mp hq with h | h
      · exact hS.2.2 q h
      · exact hL q h⟩ T' rfl X'
  exact ⟨t2, st t2 a1, b1⟩
variable {y : MethodName} {bytes : ByteArray} {maxL nL n index fr lo : Nat} {ret : Option FieldType} {own : String} {b : Addr} {As : List Value} {Pre Post : Heap → Prop} {v : Option Value} {w : Value}
theorem x_callB (hE : xE g s s.heap) (args : Array Value) (hy : xCal y bytes maxL ret n) (hl : Cond.methodLink own index y ∈ gl) (hR : fr + 1 ≤ R.frames ∧ 8 + (maxL + 11) + lo ≤ R.locals) : CallB R s args own index y bytes maxL ret (xws y bytes maxL ret) { frames := fr, cells := mc, slots := ms, locals := lo } mc ms n :=
  callB_of (ws' := []) n (hE.ts args) hy.good rfl rfl rfl (hE.ts args _ hy.2.1) (hE.ts args _ hl) hy.2.2 hR
theorem x_V1 (hx : p.tables.exec = Jvm.exec) (hb : c.code = cc) (hml : c.maxLocals = nL) (hown : s.vm.findClass own = some m.cls) (hE : xE g s s.heap) (hS : va_S (gA g) s.heap H locs) (hsize : ls.size = nL) (hy : xCalV y bytes maxL ret n) (hl : Cond.methodLink own index y ∈ gl) (hM : xM l y (xws y bytes maxL ret) fr lo g (.ref b :: As) Pre (some w) Post mc ms) (hR : fr + 1 ≤ R.frames ∧ 8 + (maxL + 11) + lo ≤ R.locals) (hf : cells + mc ≤ R.cells ∧ slots + ms ≤ R.slots) (hrv : ∃ cellB : Cell, H[b]? = some cellB ∧ cellB.vm.isStatics = false ∧ s.vm.findClass y.cls = some cellB.cls) (hpre : Pre H) (hn : As.length = n) (hst : st0 = As.reverse ++ .ref b :: rest) (hW : (rest.map fun v => v.category).sum ≤ 8) (hdg : decode cc pc = .ok (.invokevirtual index, 3))
    (kk : ∀ (H1 : Heap) (locs1 : List Loc), Post H1 → va_S (gA g) s.heap H1 locs1 → W p l e R s m args below meth c H1 locs1 (cells + mc) (slots + ms) Q (F0 m (pc + 3) ls (w :: rest))) : W p l e R s m args below meth c H locs cells slots Q (F0 m pc ls st0) := by
  have hsz : ls.size = c.maxLocals := hsize.trans hml.symm
  exact x_cont (va_runV ⟨hx, hb, hml, hown, hE.ts args⟩ hM ⟨x_callB hE args hy.1 hl hR, hE.ts args _ hy.2.1, hE.ts args _ hy.2.2⟩ ⟨xPc_blind g _ _, hrv, fun U hU hW => ⟨rfl, by rw [hU]; exact hpre, by rw [hU]; exact (hE.kept hS).at hW⟩⟩ rfl hn hsize hst (lv_room hW) hdg hf) hS kk
theorem x_V0 (hx : p.tables.exec = Jvm.exec) (hb : c.code = cc) (hml : c.maxLocals = nL) (hown : s.vm.findClass own = some m.cls) (hE : xE g s s.heap) (hS : va_S (gA g) s.heap H locs) (hsize : ls.size = nL) (hy : xCalV y bytes maxL ret n) (hl : Cond.methodLink own index y ∈ gl) (hM : xM l y (xws y bytes maxL ret) fr lo g (.ref b :: As) Pre none Post mc ms) (hR : fr + 1 ≤ R.frames ∧ 8 + (maxL + 11) + lo ≤ R.locals) (hf : cells + mc ≤ R.cells ∧ slots + ms ≤ R.slots) (hrv : ∃ cellB : Cell, H[b]? = some cellB ∧ cellB.vm.isStatics = false ∧ s.vm.findClass y.cls = some cellB.cls) (hpre : Pre H) (hn : As.length = n) (hst : st0 = As.reverse ++ .ref b :: rest) (hW : (rest.map fun v => v.category).sum ≤ 8) (hdg : decode cc pc = .ok (.invokevirtual index, 3))
    (kk : ∀ (H1 : Heap) (locs1 : List Loc), Post H1 → va_S (gA g) s.heap H1 locs1 → W p l e R s m args below meth c H1 locs1 (cells + mc) (slots + ms) Q (F0 m (pc + 3) ls rest)) : W p l e R s m args below meth c H locs cells slots Q (F0 m pc ls st0) := by
  have hsz : ls.size = c.maxLocals := hsize.trans hml.symm
  exact x_cont (va_runV ⟨hx, hb, hml, hown, hE.ts args⟩ hM ⟨x_callB hE args hy.1 hl hR, hE.ts args _ hy.2.1, hE.ts args _ hy.2.2⟩ ⟨xPc_blind g _ _, hrv, fun U hU hW => ⟨rfl, by rw [hU]; exact hpre, by rw [hU]; exact (hE.kept hS).at hW⟩⟩ rfl hn hsize hst (lv_room hW) hdg hf) hS kk
theorem x_S1 (hx : p.tables.exec = Jvm.exec) (hb : c.code = cc) (hml : c.maxLocals = nL) (hown : s.vm.findClass own = some m.cls) (hE : xE g s s.heap) (hS : va_S (gA g) s.heap H locs) (hsize : ls.size = nL) (hy : xCalS y bytes maxL ret n) (hl : Cond.methodLink own index y ∈ gl) (hM : xM l y (xws y bytes maxL ret) fr lo g As Pre (some w) Post mc ms) (hR : fr + 1 ≤ R.frames ∧ 8 + (maxL + 11) + lo ≤ R.locals) (hf : cells + mc ≤ R.cells ∧ slots + ms ≤ R.slots) (hpre : Pre H) (hn : As.length = n) (hst : st0 = As.reverse ++ rest) (hW : (rest.map fun v => v.category).sum ≤ 8) (hdg : decode cc pc = .ok (.invokestatic index, 3))
    (kk : ∀ (H1 : Heap) (locs1 : List Loc), Post H1 → va_S (gA g) s.heap H1 locs1 → W p l e R s m args below meth c H1 locs1 (cells + mc) (slots + ms) Q (F0 m (pc + 3) ls (w :: rest))) : W p l e R s m args below meth c H locs cells slots Q (F0 m pc ls st0) := by
  have hsz : ls.size = c.maxLocals := hsize.trans hml.symm
  exact x_cont (va_runS ⟨hx, hb, hml, hown, hE.ts args⟩ hM ⟨x_callB hE args hy.1 hl hR, hE.ts args _ hy.2⟩ ⟨xPc_blind g _ _, fun U hU hW => ⟨rfl, by rw [hU]; exact hpre, by rw [hU]; exact (hE.kept hS).at hW⟩⟩ rfl hn hsize hst (lv_room hW) hdg hf) hS kk
theorem x_S0 (hx : p.tables.exec = Jvm.exec) (hb : c.code = cc) (hml : c.maxLocals = nL) (hown : s.vm.findClass own = some m.cls) (hE : xE g s s.heap) (hS : va_S (gA g) s.heap H locs) (hsize : ls.size = nL) (hy : xCalS y bytes maxL ret n) (hl : Cond.methodLink own index y ∈ gl) (hM : xM l y (xws y bytes maxL ret) fr lo g As Pre none Post mc ms) (hR : fr + 1 ≤ R.frames ∧ 8 + (maxL + 11) + lo ≤ R.locals) (hf : cells + mc ≤ R.cells ∧ slots + ms ≤ R.slots) (hpre : Pre H) (hn : As.length = n) (hst : st0 = As.reverse ++ rest) (hW : (rest.map fun v => v.category).sum ≤ 8) (hdg : decode cc pc = .ok (.invokestatic index, 3))
    (kk : ∀ (H1 : Heap) (locs1 : List Loc), Post H1 → va_S (gA g) s.heap H1 locs1 → W p l e R s m args below meth c H1 locs1 (cells + mc) (slots + ms) Q (F0 m (pc + 3) ls rest)) : W p l e R s m args below meth c H locs cells slots Q (F0 m pc ls st0) := by
  have hsz : ls.size = c.maxLocals := hsize.trans hml.symm
  exact x_cont (va_runS ⟨hx, hb, hml, hown, hE.ts args⟩ hM ⟨x_callB hE args hy.1 hl hR, hE.ts args _ hy.2⟩ ⟨xPc_blind g _ _, fun U hU hW => ⟨rfl, by rw [hU]; exact hpre, by rw [hU]; exact (hE.kept hS).at hW⟩⟩ rfl hn hsize hst (lv_room hW) hdg hf) hS kk
theorem x_I0 (hx : p.tables.exec = Jvm.exec) (hb : c.code = cc) (hml : c.maxLocals = nL) (hown : s.vm.findClass own = some m.cls) (hE : xE g s s.heap) (hS : va_S (gA g) s.heap H locs) (hsize : ls.size = nL) (hy : xCalI y bytes maxL n) (hl : Cond.methodLink own index y ∈ gl) (hM : xM l y (xws y bytes maxL none) fr lo g (.ref b :: As) Pre none Post mc ms) (hR : fr + 1 ≤ R.frames ∧ 8 + (maxL + 11) + lo ≤ R.locals) (hf : cells + mc ≤ R.cells ∧ slots + ms ≤ R.slots) (hpre : Pre H) (hn : As.length = n) (hst : st0 = As.reverse ++ .ref b :: rest) (hW : (rest.map fun v => v.category).sum ≤ 8) (hdg : decode cc pc = .ok (.invokespecial index, 3))
    (kk : ∀ (H1 : Heap) (locs1 : List Loc), Post H1 → va_S (gA g) s.heap H1 locs1 → W p l e R s m args below meth c H1 locs1 (cells + mc) (slots + ms) Q (F0 m (pc + 3) ls rest)) : W p l e R s m args below meth c H locs cells slots Q (F0 m pc ls st0) := by
  have hsz : ls.size = c.maxLocals := hsize.trans hml.symm
  exact x_cont (va_runI ⟨hx, hb, hml, hown, hE.ts args⟩ hM ⟨x_callB hE args hy.1 hl hR, hy.2.2, hE.ts args _ hy.2.1⟩ ⟨xPc_blind g _ _, fun U hU hW => ⟨rfl, by rw [hU]; exact hpre, by rw [hU]; exact (hE.kept hS).at hW⟩⟩ rfl hn hsize hst (lv_room hW) hdg hf) hS kk
theorem x_callN (hE : xE g s s.heap) (args : Array Value) (hy : xCal y bytes maxL ret n) {host : String} (hl : (own, index, y, host) ∈ xNest) (hR : fr + 1 ≤ R.frames ∧ 8 + (maxL + 11) + lo ≤ R.locals) : va_CN R s args own index y host bytes maxL ret (xws y bytes maxL ret) { frames := fr, cells := mc, slots := ms, locals := lo } mc ms n :=
  va_cnB (ws' := []) n (hE.ts args) hy.good rfl rfl rfl (hE.2.2.2.1 _ hl) (hE.ts args _ hy.2.1) hy.2.2 hR
theorem x_S1N (hx : p.tables.exec = Jvm.exec) (hb : c.code = cc) (hml : c.maxLocals = nL) (hown : s.vm.findClass own = some m.cls) (hE : xE g s s.heap) (hS : va_S (gA g) s.heap H locs) (hsize : ls.size = nL) (hy : xCalS y bytes maxL ret n) {host : String} (hl : (own, index, y, host) ∈ xNest) (hM : xM l y (xws y bytes maxL ret) fr lo g As Pre (some w) Post mc ms) (hR : fr + 1 ≤ R.frames ∧ 8 + (maxL + 11) + lo ≤ R.locals) (hf : cells + mc ≤ R.cells ∧ slots + ms ≤ R.slots) (hpre : Pre H) (hn : As.length = n) (hst : st0 = As.reverse ++ rest) (hW : (rest.map fun v => v.category).sum ≤ 8) (hdg : decode cc pc = .ok (.invokestatic index, 3))
    (kk : ∀ (H1 : Heap) (locs1 : List Loc), Post H1 → va_S (gA g) s.heap H1 locs1 → W p l e R s m args below meth c H1 locs1 (cells + mc) (slots + ms) Q (F0 m (pc + 3) ls (w :: rest))) : W p l e R s m args below meth c H locs cells slots Q (F0 m pc ls st0) := by
  exact x_cont (va_runSN ⟨hx, hb, hml, hown, hE.ts args⟩ hM ⟨x_callN hE args hy.1 hl hR, hE.ts args _ hy.2, trivial⟩ ⟨xPc_blind g _ _, fun U hU hW => ⟨rfl, by rw [hU]; exact hpre, by rw [hU]; exact (hE.kept hS).at hW⟩⟩ rfl hn hsize hst (lv_room hW) hdg hf) hS kk
theorem x_I0N (hx : p.tables.exec = Jvm.exec) (hb : c.code = cc) (hml : c.maxLocals = nL) (hown : s.vm.findClass own = some m.cls) (hE : xE g s s.heap) (hS : va_S (gA g) s.heap H locs) (hsize : ls.size = nL) (hy : xCalI y bytes maxL n) {host : String} (hl : (own, index, y, host) ∈ xNest) (hM : xM l y (xws y bytes maxL none) fr lo g (.ref b :: As) Pre none Post mc ms) (hR : fr + 1 ≤ R.frames ∧ 8 + (maxL + 11) + lo ≤ R.locals) (hf : cells + mc ≤ R.cells ∧ slots + ms ≤ R.slots) (hpre : Pre H) (hn : As.length = n) (hst : st0 = As.reverse ++ .ref b :: rest) (hW : (rest.map fun v => v.category).sum ≤ 8) (hdg : decode cc pc = .ok (.invokespecial index, 3))
    (kk : ∀ (H1 : Heap) (locs1 : List Loc), Post H1 → va_S (gA g) s.heap H1 locs1 → W p l e R s m args below meth c H1 locs1 (cells + mc) (slots + ms) Q (F0 m (pc + 3) ls rest)) : W p l e R s m args below meth c H locs cells slots Q (F0 m pc ls st0) := by
  exact x_cont (va_runIN ⟨hx, hb, hml, hown, hE.ts args⟩ hM ⟨x_callN hE args hy.1 hl hR, hy.2.2, hE.ts args _ hy.2.1⟩ ⟨xPc_blind g _ _, fun U hU hW => ⟨rfl, by rw [hU]; exact hpre, by rw [hU]; exact (hE.kept hS).at hW⟩⟩ rfl hn hsize hst (lv_room hW) hdg hf) hS kk
theorem x_recv {dm : List Nat → Prop} {I : xI} {F : xF} {n : Nat} (hK : va_K (gD g) vwCl (xT g) s) (hH : xR g dm I F n H) {id : List Nat} (hd : dm id) {ci : Nat} (hk : xk id = (ci, 0)) (hci : ci < 10) {w : vw_C} (hc : vwCl[ci]? = some w) : ∃ cellB : Cell, H[ga g id]? = some cellB ∧ cellB.vm.isStatics = false ∧ s.vm.findClass w.1 = some cellB.cls := by
  obtain ⟨cell, q1, q2, q3, -⟩ := (xat_obj hk hci hc).mp (hH.2.1 id hd)
  exact ⟨cell, q1, by rw [q3]; rfl, by rw [q2]; exact (hK.1 ci w hc).2.1⟩
/-- the ends -/
theorem x_iret {r r' : Int32} {Post : Heap → Prop} (hx : p.tables.exec = Jvm.exec) (hb : c.code = cc) (hr : meth.sig.returnType = some .int) (hlocks : meth.locks = false) (hS : va_S (gA g) s.heap H locs) (hdg : decode cc pc = .ok (.ireturn, 1)) (he : r = r') (hp : Post H) : W p l e R s m args below meth c H locs cells slots (MQ below (xQc g (some (.int r')) Post) args s cells slots (gA g)) (F0 m pc ls [.int r]) := by
  subst he
  exact W.iret hx hb hr (fun t ht _ => ⟨⟨rfl, by rw [ht]; exact hp⟩, hS.F ht⟩) hS.2.2 hdg hlocks
theorem x_zret {r r' : Int32} {ty : FieldType} {Post : Heap → Prop} (hx : p.tables.exec = Jvm.exec) (hb : c.code = cc) (hr : meth.sig.returnType = some ty) (hlocks : meth.locks = false) (hS : va_S (gA g) s.heap H locs) (hdg : decode cc pc = .ok (.ireturn, 1)) (hn : narrow ty (.int r) = .int r) (he : r = r') (hp : Post H) : W p l e R s m args below meth c H locs cells slots (MQ below (xQc g (some (.int r')) Post) args s cells slots (gA g)) (F0 m pc ls [.int r]) := by
  subst he
  exact W.zret hx hb hr hn (fun t ht _ => ⟨⟨rfl, by rw [ht]; exact hp⟩, hS.F ht⟩) hS.2.2 hdg hlocks
theorem x_vret {Post : Heap → Prop} (hx : p.tables.exec = Jvm.exec) (hb : c.code = cc) (hr : meth.sig.returnType = none) (hlocks : meth.locks = false) (hS : va_S (gA g) s.heap H locs) (hdg : decode cc pc = .ok (.return_, 1)) (hp : Post H) : W p l e R s m args below meth c H locs cells slots (MQ below (xQc g none Post) args s cells slots (gA g)) (F0 m pc ls []) :=
  W.vret hx hb hr (fun t ht _ => ⟨⟨rfl, by rw [ht]; exact hp⟩, hS.F ht⟩) hS.2.2 hdg hlocks
theorem x_aret {v v' : Value} {C : String} {Post : Heap → Prop} (hx : p.tables.exec = Jvm.exec) (hb : c.code = cc) (hr : meth.sig.returnType = some (.object C)) (hlocks : meth.locks = false) (hS : va_S (gA g) s.heap H locs) (hdg : decode cc pc = .ok (.areturn, 1)) (hv : v = .null ∨ ∃ a, v = .ref a) (he : v = v') (hp : Post H) : W p l e R s m args below meth c H locs cells slots (MQ below (xQc g (some v') Post) args s cells slots (gA g)) (F0 m pc ls [v]) := by
  subst he
  exact W.aret hx hb hr (Or.inl ⟨C, rfl⟩) hv (fun t ht _ => ⟨⟨rfl, by rw [ht]; exact hp⟩, hS.F ht⟩) hS.2.2 hdg hlocks
theorem x_lret {r r' : Int64} {Post : Heap → Prop} (hx : p.tables.exec = Jvm.exec) (hb : c.code = cc) (hr : meth.sig.returnType = some .long) (hlocks : meth.locks = false) (hS : va_S (gA g) s.heap H locs) (hdg : decode cc pc = .ok (.lreturn, 1)) (he : r = r') (hp : Post H) : W p l e R s m args below meth c H locs cells slots (MQ below (xQc g (some (.long r')) Post) args s cells slots (gA g)) (F0 m pc ls [.long r]) := by
  subst he
  exact W.lret hx hb hr (fun t ht _ => ⟨⟨rfl, by rw [ht]; exact hp⟩, hS.F ht⟩) hS.2.2 hdg hlocks
theorem x_fret {r r' : UInt32} {Post : Heap → Prop} (hx : p.tables.exec = Jvm.exec) (hb : c.code = cc) (hr : meth.sig.returnType = some .float) (hlocks : meth.locks = false) (hS : va_S (gA g) s.heap H locs) (hdg : decode cc pc = .ok (.freturn, 1)) (he : r = r') (hp : Post H) : W p l e R s m args below meth c H locs cells slots (MQ below (xQc g (some (.float r')) Post) args s cells slots (gA g)) (F0 m pc ls [.float r]) := by
  subst he
  exact W.fret hx hb hr (fun t ht _ => ⟨⟨rfl, by rw [ht]; exact hp⟩, hS.F ht⟩) hS.2.2 hdg hlocks
end X2
