/-! my own layer: one set of array classes for all worlds, one fact for a world, segments that a call cuts out -/
abbrev gT : Type := va_G × (ClassId × ClassId × ClassId × ClassId × ClassId)
abbrev gD (G : gT) : va_G := G.1
abbrev gI (G : gT) : ClassId := G.2.1
abbrev gZ (G : gT) : ClassId := G.2.2.1
abbrev gB (G : gT) : ClassId := G.2.2.2.1
abbrev gM (G : gT) : ClassId := G.2.2.2.2.1
abbrev gJ (G : gT) : ClassId := G.2.2.2.2.2
abbrev gTy (G : gT) : List (ClassId × FieldType) := [(gI G, .int), (gZ G, .boolean), (gB G, .object "PartSketch$Block"), (gM G, .array .int), (gJ G, .long)]
def wK (G : gT) (U : State) : Prop := va_K (gD G) vwCl (gTy G) U
theorem wK.moved {G : gT} {u U : State} (hvm : u.vm.Alike U.vm) (h : wK G u) : wK G U := va_K.moved hvm h
def wW (G : gT) (A : Nat → Prop) (H0 : Heap) (ws : va_W) (H : Heap) (locs : List Loc) : Prop := va_P (gD G) vwCl ws H ∧ va_D A ws ∧ va_S A H0 H locs
def wPre (G : gT) (ws : va_W) (sz : Nat) (U : State) : Prop := U.heap.size = sz ∧ va_P (gD G) vwCl ws U.heap ∧ wK G U ∧ va_D (fun _ => True) ws
def wPost (G : gT) (A : Nat → Prop) (ws : va_W) (t : State) : Prop := va_P (gD G) vwCl ws t.heap ∧ wK G t ∧ va_D A ws
theorem wPre.blind {G : gT} {ws : va_W} {sz : Nat} {as : List Value} : FrameBlind (va_Pc as (wPre G ws sz)) := fun a U g mk q => by
  obtain ⟨q0, q1, qP, qK, qD⟩ := q
  exact ⟨q0, q1, qP, wK.moved (u := U) (U := U.calling g mk a) (Vm.Alike.refl U.vm) qK, qD⟩
/-! the forms of a contract -/
abbrev MI (l : Launch) (y : MethodName) (wl : List Cond) (rm : Room) (G : gT) (as : List Value) (w w1 : va_W) (sz : Nat) (res : Int32) (mc ms : Nat) : Prop :=
  Met l y wl rm (va_Pc as (wPre G w sz)) (va_Qi (fun (r : Int32) (_ : Unit) => r = res) (fun _ t => wPost G (va_A w sz) w1 t) (va_A w sz)) mc ms (va_A w sz)
abbrev ML (l : Launch) (y : MethodName) (wl : List Cond) (rm : Room) (G : gT) (as : List Value) (w w1 : va_W) (sz : Nat) (res : Int64) (mc ms : Nat) : Prop :=
  Met l y wl rm (va_Pc as (wPre G w sz)) (va_Ql (fun (r : Int64) (_ : Unit) => r = res) (fun _ t => wPost G (va_A w sz) w1 t) (va_A w sz)) mc ms (va_A w sz)
abbrev MV (l : Launch) (y : MethodName) (wl : List Cond) (rm : Room) (G : gT) (as : List Value) (w w1 : va_W) (sz : Nat) (mc ms : Nat) : Prop :=
  Met l y wl rm (va_Pc as (wPre G w sz)) (va_Qv (fun (_ : Unit) => True) (fun _ t => wPost G (va_A w sz) w1 t) (va_A w sz)) mc ms (va_A w sz)
abbrev MR (l : Launch) (y : MethodName) (wl : List Cond) (rm : Room) (G : gT) (as : List Value) (w w1 : va_W) (sz : Nat) (res : Nat) (mc ms : Nat) : Prop :=
  Met l y wl rm (va_Pc as (wPre G w sz)) (va_Qr (fun (_ : Unit) => True) (fun _ a t => a = res ∧ wPost G (va_A w sz) w1 t) (va_A w sz)) mc ms (va_A w sz)
/-- a constructor: its world comes with new addresses -/
abbrev MC {S : Type} (l : Launch) (y : MethodName) (wl : List Cond) (rm : Room) (G : gT) (as : List Value) (w : va_W) (w1 : S → va_W) (sz : Nat) (mc ms : Nat) : Prop :=
  Met l y wl rm (va_Pc as (wPre G w sz)) (va_Qv (fun (_ : S) => True) (fun u t => wPost G (va_A w sz) (w1 u) t) (va_A w sz)) mc ms (va_A w sz)
/-! worlds side by side -/
theorem vd_left {A : Nat → Prop} {a b : va_W} (h : va_D A (a ++ b)) : va_D A a := ⟨fun i j p q hi hj e => h.1 i j p q (by rw [List.getElem?_append_left (List.getElem?_eq_some_iff.mp hi).1]; exact hi) (by rw [List.getElem?_append_left (List.getElem?_eq_some_iff.mp hj).1]; exact hj) e, fun k q hk => h.2 k q (by rw [List.getElem?_append_left (List.getElem?_eq_some_iff.mp hk).1]; exact hk)⟩
theorem vd_at_right {a b : va_W} {i : Nat} {p : Nat × va_E} (hi : b[i]? = some p) : (a ++ b)[a.length + i]? = some p := by
  rw [List.getElem?_append_right (by omega), Nat.add_sub_cancel_left]; exact hi
theorem vd_right {A : Nat → Prop} {a b : va_W} (h : va_D A (a ++ b)) : va_D A b := ⟨fun i j p q hi hj e => by
  have := h.1 _ _ p q (vd_at_right (a := a) hi) (vd_at_right (a := a) hj) e
  omega, fun k q hk => h.2 _ q (vd_at_right (a := a) hk)⟩
theorem vd_cross {A : Nat → Prop} {a b : va_W} (h : va_D A (a ++ b)) {p q : Nat × va_E} (hp : p ∈ a) (hq : q ∈ b) : p.1 ≠ q.1 := fun e => by
  obtain ⟨i, hi⟩ := List.getElem?_of_mem hp
  obtain ⟨j, hj⟩ := List.getElem?_of_mem hq
  have hl := (List.getElem?_eq_some_iff.mp hi).1
  have := h.1 _ _ p q (by rw [List.getElem?_append_left hl]; exact hi) (vd_at_right (a := a) hj) e
  omega
theorem vd_mem {A : Nat → Prop} {a : va_W} (h : va_D A a) {p : Nat × va_E} (hp : p ∈ a) : A p.1 := by
  obtain ⟨i, hi⟩ := List.getElem?_of_mem hp
  exact h.2 i p hi
theorem vd_app {A : Nat → Prop} {a b : va_W} (h1 : va_D A a) (h2 : va_D A b) (hx : ∀ p ∈ a, ∀ q ∈ b, p.1 ≠ q.1) : va_D A (a ++ b) := h1.app h2 (fun _ _ p q hp hq => hx p (List.mem_of_getElem? hp) q (List.mem_of_getElem? hq))
theorem vp_mem {D : va_G} {cl : List vw_C} {a : va_W} {H : Heap} (h : va_P D cl a H) {p : Nat × va_E} (hp : p ∈ a) : va_at D cl p H := by
  obtain ⟨i, hi⟩ := List.getElem?_of_mem hp
  exact h i p hi
theorem vp_all {D : va_G} {cl : List vw_C} {a : va_W} {H : Heap} (h : ∀ p ∈ a, va_at D cl p H) : va_P D cl a H := fun _ p hp => h p (List.mem_of_getElem? hp)
theorem va_A_mem {w : va_W} {sz q : Nat} (h : va_A w sz q) : (∃ e ∈ w, e.1 = q) ∨ sz ≤ q := by
  rcases h with ⟨k, e, h⟩ | h
  · exact Or.inl ⟨_, List.mem_of_getElem? h, rfl⟩
  · exact Or.inr h
theorem w_free {G : gT} {A : Nat → Prop} {H0 H : Heap} {u w v : va_W} {locs : List Loc} (hw : wW G A H0 (u ++ (w ++ v)) H locs) (hA : ∀ q, H0.size ≤ q → A q) : ∀ q, va_A w H.size q → A q := fun q h => by
  rcases va_A_mem h with ⟨e, he, rfl⟩ | h
  · exact vd_mem hw.2.1 (List.mem_append_right _ (List.mem_append_left _ he))
  · exact hA q (Nat.le_trans hw.2.2.1 h)
theorem w_cut {G : gT} {A : Nat → Prop} {H0 H : Heap} {u w v : va_W} {locs : List Loc} (hw : wW G A H0 (u ++ (w ++ v)) H locs) : va_P (gD G) vwCl w H ∧ va_D (fun _ => True) w :=
  ⟨vp_all fun _ hp => vp_mem hw.1 (List.mem_append_right _ (List.mem_append_left _ hp)), (vd_left (vd_right hw.2.1)).weaken (fun _ _ _ _ => trivial)⟩
theorem w_join {G : gT} {A : Nat → Prop} {H0 H H1 : Heap} {u w v w1 : va_W} {locs locs1 : List Loc} (hw : wW G A H0 (u ++ (w ++ v)) H locs) (hA : ∀ q, H0.size ≤ q → A q)
    (hk : ∀ q : Nat, q < H.size → ¬ va_A w H.size q → H1[q]? = H[q]?) (hS1 : va_S A H0 H1 locs1) (hP1 : va_P (gD G) vwCl w1 H1) (hD1 : va_D (va_A w H.size) w1) : wW G A H0 (u ++ (w1 ++ v)) H1 locs1 := by
  obtain ⟨hP, hD, hS⟩ := id hw
  have hu : ∀ p ∈ u, va_at (gD G) vwCl p H := fun p hp => vp_mem hP (List.mem_append_left _ hp)
  have hv : ∀ p ∈ v, va_at (gD G) vwCl p H := fun p hp => vp_mem hP (List.mem_append_right _ (List.mem_append_right _ hp))
  have nu : ∀ p ∈ u, ¬ va_A w H.size p.1 := fun p hp h => by
    rcases va_A_mem h with ⟨e, he, h⟩ | h
    · exact vd_cross hD hp (List.mem_append_left _ he) h.symm
    · exact absurd (hu p hp).lt (Nat.not_lt.mpr h)
  have nv : ∀ p ∈ v, ¬ va_A w H.size p.1 := fun p hp h => by
    rcases va_A_mem h with ⟨e, he, h⟩ | h
    · exact vd_cross (vd_right hD) he hp h
    · exact absurd (hv p hp).lt (Nat.not_lt.mpr h)
  refine ⟨vp_all fun p hp => ?_, vd_app (vd_left hD) (vd_app (hD1.weaken fun _ q _ h => w_free hw hA q.1 h) (vd_right (vd_right hD)) fun p hp q hq e => nv q hq (by rw [← e]; exact vd_mem hD1 hp)) fun p hp q hq => ?_, hS1⟩
  · rcases List.mem_append.mp hp with h | h
    · exact (hu p h).kept (hk _ (hu p h).lt (nu p h))
    · rcases List.mem_append.mp h with h | h
      · exact vp_mem hP1 h
      · exact (hv p h).kept (hk _ (hv p h).lt (nv p h))
  · rcases List.mem_append.mp hq with h | h
    · exact fun e => nu p hp (by rw [e]; exact vd_mem hD1 h)
    · exact vd_cross hD hp (List.mem_append_right _ h)
theorem wW.eq {G : gT} {A : Nat → Prop} {H0 H : Heap} {ws ws' : va_W} {locs : List Loc} (e : ws = ws') (h : wW G A H0 ws H locs) : wW G A H0 ws' H locs := e ▸ h
/-! rows -/
section ROWS
variable {p : Program} {l : Launch} {e : Env} {R : Room} {s : State} {m : MethodId} {args : Array Value} {below : List Frame} {meth : Method} {c : Code} {H : Heap} {locs : List Loc} {cells slots : Nat} {Q : State → Prop}
variable {cc : ByteArray} {pc : Nat} {ls : Array Slot} {rest : List Value} {A : Nat → Prop} {H0 : Heap} {ws : va_W} {G : gT}
theorem r_get (hx : p.tables.exec = Jvm.exec) (hb : c.code = cc) {own ref C : String} {T : u_T} {N ci index : Nat} {Ts : List Cond} (hts : ∀ w ∈ Ts, w.before args s = true) (hin : ∀ w ∈ u_ws C T N, w ∈ Ts) (hown : s.vm.findClass own = some m.cls) (hK : wK G s) (hw : wW G A H0 ws H locs) (q0 : Nat) {a : Nat} {fs : List Value} (he : ws[q0]? = some (a, .inr (ci, fs))) (hc : vwCl[ci]? = some (C, T, N)) (k : Nat) (hk : k < N) (hlink : Cond.fieldLink own index ref (T k).2.1 (T k).2.2.1 ∈ Ts) (hsame : ∀ x, s.fieldFound? (T k).1 (T k).2.1 (T k).2.2.1 = some x → s.fieldFound? ref (T k).2.1 (T k).2.2.1 = some x) {v : Value} (hv : fs[k]? = some v) (hdg : decode cc pc = .ok (.getfield index, 3))
    (kk : W p l e R s m args below meth c H locs cells slots Q (F0 m (pc + 3) ls (v :: rest))) : W p l e R s m args below meth c H locs cells slots Q (F0 m pc ls (.ref a :: rest)) :=
  va_get hx hb hts hin hown hK hw.1 q0 he hc k hk (hts _ hlink) hsame hv hdg kk
theorem r_put (hx : p.tables.exec = Jvm.exec) (hb : c.code = cc) {own ref C : String} {T : u_T} {N ci index : Nat} {Ts : List Cond} (hts : ∀ w ∈ Ts, w.before args s = true) (hin : ∀ w ∈ u_ws C T N, w ∈ Ts) (ty0 : Nat → FieldType) (hty : ∀ k, k < N → parseFieldDescriptor (T k).2.2.1 = some (ty0 k)) (hnm : ∀ a, a < N → ∀ b, b < N → a ≠ b → (T a).2.1 ≠ (T b).2.1) (hown : s.vm.findClass own = some m.cls) (hK : wK G s) (hw : wW G A H0 ws H locs) (q0 : Nat) {a : Nat} {fs : List Value} (he : ws[q0]? = some (a, .inr (ci, fs))) (hc : vwCl[ci]? = some (C, T, N)) (k : Nat) (hk : k < N) (hlink : Cond.fieldLink own index ref (T k).2.1 (T k).2.2.1 ∈ Ts) (hsame : ∀ x, s.fieldFound? (T k).1 (T k).2.1 (T k).2.2.1 = some x → s.fieldFound? ref (T k).2.1 (T k).2.2.1 = some x) (hfin : (T k).2.2.2 = false) {ty : FieldType} {v : Value} (hd : parseFieldDescriptor (T k).2.2.1 = some ty) (hn : narrow ty v = v) (hfit : fits ty v = true) (hl : k < fs.length)
    (hdg : decode cc pc = .ok (.putfield index, 3)) {ws' : va_W} (hs : ws.set q0 (a, .inr (ci, fs.set k v)) = ws') (kk : ∀ (H1 : Heap) (locs1 : List Loc), wW G A H0 ws' H1 locs1 → W p l e R s m args below meth c H1 locs1 cells slots Q (F0 m (pc + 3) ls rest)) : W p l e R s m args below meth c H locs cells slots Q (F0 m pc ls (v :: .ref a :: rest)) :=
  va_put hx hb hts hin ty0 hty hnm hown hK hw.1 hw.2.1 hw.2.2 q0 he hc k hk (hts _ hlink) hsame hfin hd hn hfit hl hdg fun H1 locs1 h1 h2 h3 => kk H1 locs1 (wW.eq hs ⟨h1, h2, h3⟩)
theorem r_putF (hx : p.tables.exec = Jvm.exec) (hb : c.code = cc) {own ref C : String} {T : u_T} {N ci index : Nat} {Ts : List Cond} (hts : ∀ w ∈ Ts, w.before args s = true) (hin : ∀ w ∈ u_ws C T N, w ∈ Ts) (ty0 : Nat → FieldType) (hty : ∀ k, k < N → parseFieldDescriptor (T k).2.2.1 = some (ty0 k)) (hnm : ∀ a, a < N → ∀ b, b < N → a ≠ b → (T a).2.1 ≠ (T b).2.1) (hown : s.vm.findClass own = some m.cls) (hK : wK G s) (hw : wW G A H0 ws H locs) (q0 : Nat) {a : Nat} {fs : List Value} (he : ws[q0]? = some (a, .inr (ci, fs))) (hc : vwCl[ci]? = some (C, T, N)) (k : Nat) (hk : k < N) (hlink : Cond.fieldLink own index ref (T k).2.1 (T k).2.2.1 ∈ Ts) (hsame : ∀ x, s.fieldFound? (T k).1 (T k).2.1 (T k).2.2.1 = some x → s.fieldFound? ref (T k).2.1 (T k).2.2.1 = some x) (hfin : (T k).2.2.2 = true) (hin2 : meth.name = "<init>") (hdecl : (T k).1 = own) {ty : FieldType} {v : Value} (hd : parseFieldDescriptor (T k).2.2.1 = some ty) (hn : narrow ty v = v) (hfit : fits ty v = true) (hl : k < fs.length)
    (hdg : decode cc pc = .ok (.putfield index, 3)) {ws' : va_W} (hs : ws.set q0 (a, .inr (ci, fs.set k v)) = ws') (kk : ∀ (H1 : Heap) (locs1 : List Loc), wW G A H0 ws' H1 locs1 → W p l e R s m args below meth c H1 locs1 cells slots Q (F0 m (pc + 3) ls rest)) : W p l e R s m args below meth c H locs cells slots Q (F0 m pc ls (v :: .ref a :: rest)) :=
  va_putF hx hb hts hin ty0 hty hnm hown hK hw.1 hw.2.1 hw.2.2 q0 he hc k hk (hts _ hlink) hsame hfin hin2 hdecl hd hn hfit hl hdg fun H1 locs1 h1 h2 h3 => kk H1 locs1 (wW.eq hs ⟨h1, h2, h3⟩)
theorem r_iald (hx : p.tables.exec = Jvm.exec) (hb : c.code = cc) (hK : wK G s) (hw : wW G A H0 ws H locs) (q0 : Nat) {a n : Nat} {f : Nat → Int32} (ha : ws[q0]? = some (a, .inl (gI G, n, .inl f))) {x : Int32} (i : Nat) (hi : x = nI i) (hin : i < n) (hN : n < 2 ^ 31) {v : Int32} (hv : f i = v) (hdg : decode cc pc = .ok (.iaload, 1))
    (kk : W p l e R s m args below meth c H locs cells slots Q (F0 m (pc + 1) ls (.int v :: rest))) : W p l e R s m args below meth c H locs cells slots Q (F0 m pc ls (.int x :: .ref a :: rest)) := by
  subst hi
  subst hv
  refine va_iald hx hb hK hw.1 q0 0 ha rfl (vp_in_nI hin hN) hdg ?_
  rw [nI_clamp (Nat.lt_trans hin hN)]
  exact kk
theorem r_zald (hx : p.tables.exec = Jvm.exec) (hb : c.code = cc) (hK : wK G s) (hw : wW G A H0 ws H locs) (q0 : Nat) {a n : Nat} {f : Nat → Int32} (ha : ws[q0]? = some (a, .inl (gZ G, n, .inl f))) {x : Int32} (i : Nat) (hi : x = nI i) (hin : i < n) (hN : n < 2 ^ 31) {v : Int32} (hv : f i = v) (hdg : decode cc pc = .ok (.baload, 1))
    (kk : W p l e R s m args below meth c H locs cells slots Q (F0 m (pc + 1) ls (.int v :: rest))) : W p l e R s m args below meth c H locs cells slots Q (F0 m pc ls (.int x :: .ref a :: rest)) := by
  subst hi
  subst hv
  refine va_zald hx hb hK hw.1 q0 1 ha rfl (vp_in_nI hin hN) hdg ?_
  rw [nI_clamp (Nat.lt_trans hin hN)]
  exact kk
theorem r_lald (hx : p.tables.exec = Jvm.exec) (hb : c.code = cc) (hK : wK G s) (hw : wW G A H0 ws H locs) (q0 : Nat) {a n : Nat} {f : Nat → Int64} (ha : ws[q0]? = some (a, .inl (gJ G, n, .inr (.inl f)))) {x : Int32} (i : Nat) (hi : x = nI i) (hin : i < n) (hN : n < 2 ^ 31) {v : Int64} (hv : f i = v) (hdg : decode cc pc = .ok (.laload, 1))
    (kk : W p l e R s m args below meth c H locs cells slots Q (F0 m (pc + 1) ls (.long v :: rest))) : W p l e R s m args below meth c H locs cells slots Q (F0 m pc ls (.int x :: .ref a :: rest)) := by
  subst hi
  subst hv
  refine va_lald hx hb hK hw.1 q0 4 ha rfl (vp_in_nI hin hN) hdg ?_
  rw [nI_clamp (Nat.lt_trans hin hN)]
  exact kk
theorem r_aldB (hx : p.tables.exec = Jvm.exec) (hb : c.code = cc) (hK : wK G s) (hw : wW G A H0 ws H locs) (q0 : Nat) {a n : Nat} {f : Nat → Option Nat} (ha : ws[q0]? = some (a, .inl (gB G, n, .inr (.inr (.inr (.inr f)))))) {x : Int32} (i : Nat) (hi : x = nI i) (hin : i < n) (hN : n < 2 ^ 31) {v : Nat} (hv : f i = some v) (hdg : decode cc pc = .ok (.aaload, 1))
    (kk : W p l e R s m args below meth c H locs cells slots Q (F0 m (pc + 1) ls (.ref v :: rest))) : W p l e R s m args below meth c H locs cells slots Q (F0 m pc ls (.int x :: .ref a :: rest)) := by
  subst hi
  refine va_aldq hx hb hK hw.1 q0 2 ha rfl (vp_in_nI hin hN) hdg ?_
  rw [nI_clamp (Nat.lt_trans hin hN), hv]
  exact kk
theorem r_aldM (hx : p.tables.exec = Jvm.exec) (hb : c.code = cc) (hK : wK G s) (hw : wW G A H0 ws H locs) (q0 : Nat) {a n : Nat} {f : Nat → Option Nat} (ha : ws[q0]? = some (a, .inl (gM G, n, .inr (.inr (.inr (.inr f)))))) {x : Int32} (i : Nat) (hi : x = nI i) (hin : i < n) (hN : n < 2 ^ 31) {v : Nat} (hv : f i = some v) (hdg : decode cc pc = .ok (.aaload, 1))
    (kk : W p l e R s m args below meth c H locs cells slots Q (F0 m (pc + 1) ls (.ref v :: rest))) : W p l e R s m args below meth c H locs cells slots Q (F0 m pc ls (.int x :: .ref a :: rest)) := by
  subst hi
  have hin' := vp_in_nI hin hN
  have hcl : (nI i).toNatClampNeg = i := nI_clamp (Nat.lt_trans hin hN)
  refine W.aald (v := va_rf (f (nI i).toNatClampNeg)) (ty := .array .int) hx hb (hw.1 q0 _ ha) ((hK.2 3 _ rfl).1 n (fun j => va_rf (f j))) rfl (fun q => by cases q) (by show ¬ (nI i < 0 ∨ (arrV _ _ _).slots.size ≤ _); rw [arrV_size]; exact hin') (by show (arrV _ _ _).slots[_]? = _; rw [arrV_read _ _ (by rw [hcl]; exact hin)]) rfl rfl hdg ?_
  rw [hcl, hv]
  exact kk
theorem r_iast (hx : p.tables.exec = Jvm.exec) (hb : c.code = cc) (hK : wK G s) (hw : wW G A H0 ws H locs) (q0 : Nat) {a n : Nat} {f : Nat → Int32} (ha : ws[q0]? = some (a, .inl (gI G, n, .inl f))) {x v : Int32} (i : Nat) (hi : x = nI i) (hin : i < n) (hN : n < 2 ^ 31) (hdg : decode cc pc = .ok (.iastore, 1)) {ws' : va_W} (hs : ws.set q0 (a, .inl (gI G, n, .inl (upd f i v))) = ws')
    (kk : ∀ (H1 : Heap) (locs1 : List Loc), wW G A H0 ws' H1 locs1 → W p l e R s m args below meth c H1 locs1 cells slots Q (F0 m (pc + 1) ls rest)) : W p l e R s m args below meth c H locs cells slots Q (F0 m pc ls (.int v :: .int x :: .ref a :: rest)) := by
  subst hi
  refine va_iast hx hb hK hw.1 hw.2.1 hw.2.2 q0 0 ha rfl (vp_in_nI hin hN) hdg fun H1 locs1 h1 h2 h3 => ?_
  rw [nI_clamp (Nat.lt_trans hin hN)] at h1 h2
  exact kk H1 locs1 (wW.eq hs ⟨h1, h2, h3⟩)
theorem r_zast (hx : p.tables.exec = Jvm.exec) (hb : c.code = cc) (hK : wK G s) (hw : wW G A H0 ws H locs) (q0 : Nat) {a n : Nat} {f : Nat → Int32} (ha : ws[q0]? = some (a, .inl (gZ G, n, .inl f))) {x v : Int32} (i : Nat) (hi : x = nI i) (hin : i < n) (hN : n < 2 ^ 31) (hv : vp_nar .boolean v = v) (hdg : decode cc pc = .ok (.bastore, 1)) {ws' : va_W} (hs : ws.set q0 (a, .inl (gZ G, n, .inl (upd f i v))) = ws')
    (kk : ∀ (H1 : Heap) (locs1 : List Loc), wW G A H0 ws' H1 locs1 → W p l e R s m args below meth c H1 locs1 cells slots Q (F0 m (pc + 1) ls rest)) : W p l e R s m args below meth c H locs cells slots Q (F0 m pc ls (.int v :: .int x :: .ref a :: rest)) := by
  subst hi
  refine va_zast hx hb hK hw.1 hw.2.1 hw.2.2 q0 1 ha rfl (vp_in_nI hin hN) hdg fun H1 locs1 h1 h2 h3 => ?_
  rw [nI_clamp (Nat.lt_trans hin hN), hv] at h1 h2
  exact kk H1 locs1 (wW.eq hs ⟨h1, h2, h3⟩)
theorem r_last (hx : p.tables.exec = Jvm.exec) (hb : c.code = cc) (hK : wK G s) (hw : wW G A H0 ws H locs) (q0 : Nat) {a n : Nat} {f : Nat → Int64} (ha : ws[q0]? = some (a, .inl (gJ G, n, .inr (.inl f)))) {x : Int32} {v : Int64} (i : Nat) (hi : x = nI i) (hin : i < n) (hN : n < 2 ^ 31) (hdg : decode cc pc = .ok (.lastore, 1)) {ws' : va_W} (hs : ws.set q0 (a, .inl (gJ G, n, .inr (.inl (vp_updL f i v)))) = ws')
    (kk : ∀ (H1 : Heap) (locs1 : List Loc), wW G A H0 ws' H1 locs1 → W p l e R s m args below meth c H1 locs1 cells slots Q (F0 m (pc + 1) ls rest)) : W p l e R s m args below meth c H locs cells slots Q (F0 m pc ls (.long v :: .int x :: .ref a :: rest)) := by
  subst hi
  refine va_last hx hb hK hw.1 hw.2.1 hw.2.2 q0 4 ha rfl (vp_in_nI hin hN) hdg fun H1 locs1 h1 h2 h3 => ?_
  rw [nI_clamp (Nat.lt_trans hin hN)] at h1 h2
  exact kk H1 locs1 (wW.eq hs ⟨h1, h2, h3⟩)
/-- another name for the number on top -/
theorem r_top {x y : Int32} (e0 : x = y) (k : W p l e R s m args below meth c H locs cells slots Q (F0 m pc ls (.int y :: rest))) : W p l e R s m args below meth c H locs cells slots Q (F0 m pc ls (.int x :: rest)) := e0 ▸ k
theorem r_topL {x y : Int64} (e0 : x = y) (k : W p l e R s m args below meth c H locs cells slots Q (F0 m pc ls (.long y :: rest))) : W p l e R s m args below meth c H locs cells slots Q (F0 m pc ls (.long x :: rest)) := e0 ▸ k
theorem r_w {ws ws' : va_W} (hw : wW G A H0 ws H locs) (e0 : ws = ws') (k : wW G A H0 ws' H locs → W p l e R s m args below meth c H locs cells slots Q (F0 m pc ls rest)) : W p l e R s m args below meth c H locs cells slots Q (F0 m pc ls rest) := k (wW.eq e0 hw)
theorem r_calli {u w v w1 : va_W} {res : Int32} {mc ms k n : Nat} {st0 : List Value} {a : Array Value}
    (hr : va_Run p l e R s m args below meth c H locs cells slots mc ms (F0 m pc ls st0) rest (va_Qi (fun (r : Int32) (_ : Unit) => r = res) (fun _ t => wPost G (va_A w H.size) w1 t) (va_A w H.size) a) (va_A w H.size))
    (hw : wW G A H0 (u ++ (w ++ v)) H locs) (hA : ∀ q, H0.size ≤ q → A q) (hk : cells + mc = k) (hn : slots + ms = n)
    (kk : ∀ (H1 : Heap) (locs1 : List Loc), wW G A H0 (u ++ (w1 ++ v)) H1 locs1 → W p l e R s m args below meth c H1 locs1 k n Q (F0 m (pc + 3) ls (.int res :: rest))) : W p l e R s m args below meth c H locs cells slots Q (F0 m pc ls st0) := by
  subst hk
  subst hn
  refine va_calli hr hw.2.2 (fun q _ h => w_free hw hA q h) (w_free hw hA) fun r _ t H1 locs1 ht hvm hr hB _ hk1 hS => ?_
  subst hr
  obtain ⟨hP1, -, hD1⟩ := hB
  rw [ht] at hP1
  exact kk H1 locs1 (w_join hw hA hk1 hS hP1 hD1)
theorem r_calll {u w v w1 : va_W} {res : Int64} {mc ms k n : Nat} {st0 : List Value} {a : Array Value}
    (hr : va_Run p l e R s m args below meth c H locs cells slots mc ms (F0 m pc ls st0) rest (va_Ql (fun (r : Int64) (_ : Unit) => r = res) (fun _ t => wPost G (va_A w H.size) w1 t) (va_A w H.size) a) (va_A w H.size))
    (hw : wW G A H0 (u ++ (w ++ v)) H locs) (hA : ∀ q, H0.size ≤ q → A q) (hk : cells + mc = k) (hn : slots + ms = n)
    (kk : ∀ (H1 : Heap) (locs1 : List Loc), wW G A H0 (u ++ (w1 ++ v)) H1 locs1 → W p l e R s m args below meth c H1 locs1 k n Q (F0 m (pc + 3) ls (.long res :: rest))) : W p l e R s m args below meth c H locs cells slots Q (F0 m pc ls st0) := by
  subst hk
  subst hn
  refine va_calll hr hw.2.2 (fun q _ h => w_free hw hA q h) (w_free hw hA) fun r _ t H1 locs1 ht hvm hr hB _ hk1 hS => ?_
  subst hr
  obtain ⟨hP1, -, hD1⟩ := hB
  rw [ht] at hP1
  exact kk H1 locs1 (w_join hw hA hk1 hS hP1 hD1)
theorem r_callv {u w v w1 : va_W} {mc ms k n : Nat} {st0 : List Value} {a : Array Value}
    (hr : va_Run p l e R s m args below meth c H locs cells slots mc ms (F0 m pc ls st0) rest (va_Qv (fun (_ : Unit) => True) (fun _ t => wPost G (va_A w H.size) w1 t) (va_A w H.size) a) (va_A w H.size))
    (hw : wW G A H0 (u ++ (w ++ v)) H locs) (hA : ∀ q, H0.size ≤ q → A q) (hk : cells + mc = k) (hn : slots + ms = n)
    (kk : ∀ (H1 : Heap) (locs1 : List Loc), wW G A H0 (u ++ (w1 ++ v)) H1 locs1 → W p l e R s m args below meth c H1 locs1 k n Q (F0 m (pc + 3) ls rest)) : W p l e R s m args below meth c H locs cells slots Q (F0 m pc ls st0) := by
  subst hk
  subst hn
  refine va_callv hr hw.2.2 (fun q _ h => w_free hw hA q h) (w_free hw hA) fun _ t H1 locs1 ht hvm _ hB _ hk1 hS => ?_
  obtain ⟨hP1, -, hD1⟩ := hB
  rw [ht] at hP1
  exact kk H1 locs1 (w_join hw hA hk1 hS hP1 hD1)
theorem r_callc {S : Type} {u w v : va_W} {w1 : S → va_W} {mc ms k n : Nat} {st0 : List Value} {a : Array Value}
    (hr : va_Run p l e R s m args below meth c H locs cells slots mc ms (F0 m pc ls st0) rest (va_Qv (fun (_ : S) => True) (fun z t => wPost G (va_A w H.size) (w1 z) t) (va_A w H.size) a) (va_A w H.size))
    (hw : wW G A H0 (u ++ (w ++ v)) H locs) (hA : ∀ q, H0.size ≤ q → A q) (hk : cells + mc = k) (hn : slots + ms = n)
    (kk : ∀ (z : S) (H1 : Heap) (locs1 : List Loc), wW G A H0 (u ++ (w1 z ++ v)) H1 locs1 → W p l e R s m args below meth c H1 locs1 k n Q (F0 m (pc + 3) ls rest)) : W p l e R s m args below meth c H locs cells slots Q (F0 m pc ls st0) := by
  subst hk
  subst hn
  refine va_callv hr hw.2.2 (fun q _ h => w_free hw hA q h) (w_free hw hA) fun z t H1 locs1 ht hvm _ hB _ hk1 hS => ?_
  obtain ⟨hP1, -, hD1⟩ := hB
  rw [ht] at hP1
  exact kk z H1 locs1 (w_join hw hA hk1 hS hP1 hD1)
theorem r_callr {u w v w1 : va_W} {res : Nat} {mc ms k n : Nat} {st0 : List Value} {a : Array Value}
    (hr : va_Run p l e R s m args below meth c H locs cells slots mc ms (F0 m pc ls st0) rest (va_Qr (fun (_ : Unit) => True) (fun _ z t => z = res ∧ wPost G (va_A w H.size) w1 t) (va_A w H.size) a) (va_A w H.size))
    (hw : wW G A H0 (u ++ (w ++ v)) H locs) (hA : ∀ q, H0.size ≤ q → A q) (hk : cells + mc = k) (hn : slots + ms = n)
    (kk : ∀ (H1 : Heap) (locs1 : List Loc), wW G A H0 (u ++ (w1 ++ v)) H1 locs1 → W p l e R s m args below meth c H1 locs1 k n Q (F0 m (pc + 3) ls (.ref res :: rest))) : W p l e R s m args below meth c H locs cells slots Q (F0 m pc ls st0) := by
  subst hk
  subst hn
  refine va_callr hr hw.2.2 (fun q _ h => w_free hw hA q h) (w_free hw hA) fun _ ra t H1 locs1 ht hvm _ hB _ hk1 hS => ?_
  obtain ⟨rfl, hP1, -, hD1⟩ := hB
  rw [ht] at hP1
  exact kk H1 locs1 (w_join hw hA hk1 hS hP1 hD1)
/-- what a callee asks for at its start -/
theorem r_preS {As : List Value} {u w v : va_W} (hK : wK G s) (hw : wW G A H0 (u ++ (w ++ v)) H locs) : PreS s H (va_Pc As (wPre G w H.size)) As :=
  ⟨wPre.blind, fun U hU hW => ⟨rfl, by rw [hU], by rw [hU]; exact (w_cut hw).1, wK.moved hW.alike hK, (w_cut hw).2⟩⟩
theorem r_preV {As : List Value} {u w v : va_W} {b q0 ci : Nat} {fs : List Value} {r : vw_C} {C : String} (hK : wK G s) (hw : wW G A H0 (u ++ (w ++ v)) H locs) (hb0 : (u ++ (w ++ v))[q0]? = some (b, .inr (ci, fs))) (hc0 : vwCl[ci]? = some r) (hC : r.1 = C) : PreV s H C b (va_Pc (.ref b :: As) (wPre G w H.size)) As :=
  ⟨wPre.blind, by rw [← hC]; exact va_recv hK hw.1 (ci := ci) (q0 := q0) hc0 hb0, fun U hU hW => ⟨rfl, by rw [hU], by rw [hU]; exact (w_cut hw).1, wK.moved hW.alike hK, (w_cut hw).2⟩⟩
/-! a method's end -/
theorem m_iret {res v : Int32} {w1 : va_W} {mc ms : Nat} (hx : p.tables.exec = Jvm.exec) (hb : c.code = cc) (hr : meth.sig.returnType = some .int) (hlocks : meth.locks = false) (hK : wK G s) (hw : wW G A s.heap ws H locs) (hc : cells ≤ mc) (hs : slots ≤ ms) (hdg : decode cc pc = .ok (.ireturn, 1)) (hres : v = res) (hws : ws = w1) :
    W p l e R s m args below meth c H locs cells slots (MQ below (va_Qi (fun (r : Int32) (_ : Unit) => r = res) (fun _ t => wPost G A w1 t) A) args s mc ms A) (F0 m pc ls [.int v]) := by
  subst hws
  refine W.widen hc hs ?_
  exact W.iret hx hb hr (fun t ht hW => ⟨⟨v, (), rfl, hres, by rw [ht]; exact hw.1, wK.moved hW.alike hK, hw.2.1⟩, hw.2.2.F ht⟩) hw.2.2.2.2 hdg hlocks
theorem m_zret {res v : Int32} {w1 : va_W} {mc ms : Nat} (hx : p.tables.exec = Jvm.exec) (hb : c.code = cc) (hr : meth.sig.returnType = some .boolean) (hlocks : meth.locks = false) (hK : wK G s) (hw : wW G A s.heap ws H locs) (hc : cells ≤ mc) (hs : slots ≤ ms) (hdg : decode cc pc = .ok (.ireturn, 1)) (hv : narrow .boolean (.int v) = .int v) (hres : v = res) (hws : ws = w1) :
    W p l e R s m args below meth c H locs cells slots (MQ below (va_Qi (fun (r : Int32) (_ : Unit) => r = res) (fun _ t => wPost G A w1 t) A) args s mc ms A) (F0 m pc ls [.int v]) := by
  subst hws
  refine W.widen hc hs ?_
  exact W.zret hx hb hr hv (fun t ht hW => ⟨⟨v, (), rfl, hres, by rw [ht]; exact hw.1, wK.moved hW.alike hK, hw.2.1⟩, hw.2.2.F ht⟩) hw.2.2.2.2 hdg
theorem m_lret {res v : Int64} {w1 : va_W} {mc ms : Nat} (hx : p.tables.exec = Jvm.exec) (hb : c.code = cc) (hr : meth.sig.returnType = some .long) (hlocks : meth.locks = false) (hK : wK G s) (hw : wW G A s.heap ws H locs) (hc : cells ≤ mc) (hs : slots ≤ ms) (hdg : decode cc pc = .ok (.lreturn, 1)) (hres : v = res) (hws : ws = w1) :
    W p l e R s m args below meth c H locs cells slots (MQ below (va_Ql (fun (r : Int64) (_ : Unit) => r = res) (fun _ t => wPost G A w1 t) A) args s mc ms A) (F0 m pc ls [.long v]) := by
  subst hws
  refine W.widen hc hs ?_
  exact W.lret hx hb hr (fun t ht hW => ⟨⟨v, (), rfl, hres, by rw [ht]; exact hw.1, wK.moved hW.alike hK, hw.2.1⟩, hw.2.2.F ht⟩) hw.2.2.2.2 hdg
theorem m_vret {w1 : va_W} {mc ms : Nat} (hx : p.tables.exec = Jvm.exec) (hb : c.code = cc) (hr : meth.sig.returnType = none) (hlocks : meth.locks = false) (hK : wK G s) (hw : wW G A s.heap ws H locs) (hc : cells ≤ mc) (hs : slots ≤ ms) (hdg : decode cc pc = .ok (.return_, 1)) (hws : ws = w1) :
    W p l e R s m args below meth c H locs cells slots (MQ below (va_Qv (fun (_ : Unit) => True) (fun _ t => wPost G A w1 t) A) args s mc ms A) (F0 m pc ls []) := by
  subst hws
  refine W.widen hc hs ?_
  exact W.vret hx hb hr (fun t ht hW => ⟨⟨(), rfl, trivial, by rw [ht]; exact hw.1, wK.moved hW.alike hK, hw.2.1⟩, hw.2.2.F ht⟩) hw.2.2.2.2 hdg
theorem m_cret {S : Type} {w1 : S → va_W} {mc ms : Nat} (hx : p.tables.exec = Jvm.exec) (hb : c.code = cc) (hr : meth.sig.returnType = none) (hlocks : meth.locks = false) (hK : wK G s) (hw : wW G A s.heap ws H locs) (hc : cells ≤ mc) (hs : slots ≤ ms) (hdg : decode cc pc = .ok (.return_, 1)) (z : S) (hws : ws = w1 z) :
    W p l e R s m args below meth c H locs cells slots (MQ below (va_Qv (fun (_ : S) => True) (fun u t => wPost G A (w1 u) t) A) args s mc ms A) (F0 m pc ls []) := by
  subst hws
  refine W.widen hc hs ?_
  exact W.vret hx hb hr (fun t ht hW => ⟨⟨z, rfl, trivial, by rw [ht]; exact hw.1, wK.moved hW.alike hK, hw.2.1⟩, hw.2.2.F ht⟩) hw.2.2.2.2 hdg
theorem m_rret {res v : Nat} {rt : FieldType} {w1 : va_W} {mc ms : Nat} (hx : p.tables.exec = Jvm.exec) (hb : c.code = cc) (hr : meth.sig.returnType = some rt) (hrt : (∃ n, rt = .object n) ∨ ∃ t, rt = .array t) (hlocks : meth.locks = false) (hK : wK G s) (hw : wW G A s.heap ws H locs) (hc : cells ≤ mc) (hs : slots ≤ ms) (hdg : decode cc pc = .ok (.areturn, 1)) (hres : v = res) (hws : ws = w1) :
    W p l e R s m args below meth c H locs cells slots (MQ below (va_Qr (fun (_ : Unit) => True) (fun _ z t => z = res ∧ wPost G A w1 t) A) args s mc ms A) (F0 m pc ls [.ref v]) := by
  subst hws
  refine W.widen hc hs ?_
  exact W.aret hx hb hr hrt (Or.inr ⟨v, rfl⟩) (fun t ht hW => ⟨⟨(), v, rfl, trivial, hres, by rw [ht]; exact hw.1, wK.moved hW.alike hK, hw.2.1⟩, hw.2.2.F ht⟩) hw.2.2.2.2 hdg
end ROWS
/-- a method's start -/
theorem m_of {l : Launch} {y : MethodName} {wl wl' : List Cond} {rm : Room} {G : gT} {as : List Value} {w : va_W} {sz : Nat} {Qc : (Nat → Prop) → Array Value → State → Outcome → State → Prop} {mc ms : Nat} {cc : ByteArray} {maxL : Nat} {ret : Option FieldType} (hy : plainName y.cls = true) (hw : wl = Cond.code y cc maxL ret :: wl') (hn : (lg_sl as).length ≤ maxL)
    (body : ∀ (p : Program) (e : Env) (s : State) (m : MethodId) (A : Nat → Prop) (below : List Frame) (meth : Method) (c : Code) (H : Heap) (locs : List Loc) (ls : Array Slot), p.tables.exec = Jvm.exec → c.code = cc → meth.sig.returnType = ret → (∀ x ∈ wl, x.before as.toArray s = true) → s.vm.findClass y.cls = some m.cls → meth.locks = false → meth.name = y.name → c.maxLocals = maxL → wK G s → (∀ q : Nat, s.heap.size ≤ q → A q) → wW G A s.heap w H locs → lv_has ls maxL (lv_args 0 as) →
      W p l e rm s m as.toArray below meth c H locs 0 0 (MQ below (Qc A) as.toArray s mc ms A) (F0 m 0 ls [])) : Met l y wl rm (va_Pc as (wPre G w sz)) (Qc (va_A w sz)) mc ms (va_A w sz) := by
  refine Met.ofW (cc := cc) (maxL := maxL) (ret := ret) hy hw ?_
  intro p e s m args below meth c s₁ B hml hv
  obtain ⟨rfl, hsz, hP, hK, hD0⟩ := hv
  have hl := lv_entry as (n := maxL) hn
  rw [lg_entry_eq]
  generalize (lg_sl as ++ List.replicate (maxL - (lg_sl as).length) Slot.unset).toArray = ls at hl ⊢
  exact body p e s m _ below meth c _ _ ls B.exec B.bytes B.returns (atoms_spec (ws := wl) B.pre) (findClass_of_methodNamed B.named) B.notSynchronized (name_of_methodNamed B.named B.method).1 hml hK (fun q h => Or.inr (by rw [← hsz]; exact h)) ⟨hP, hD0.self, va_S.rf⟩ hl
/-- an array of Nats, one changed -/
def updN (o : Nat → Nat) (k v : Nat) : Nat → Nat := fun j => if j = k then v else o j
theorem upd_nI (o : Nat → Nat) (k v : Nat) : upd (fun j => nI (o j)) k (nI v) = fun j => nI (updN o k v j) := by
  funext j
  by_cases h : j = k <;> simp [upd, updN, h]
section ROWC
variable {p : Program} {l : Launch} {e : Env} {R : Room} {s : State} {m : MethodId} {args : Array Value} {below : List Frame} {meth : Method} {c : Code} {H : Heap} {locs : List Loc} {cells slots : Nat} {Q : State → Prop}
variable {cc : ByteArray} {pc : Nat} {ls : Array Slot} {rest : List Value} {A : Nat → Prop} {H0 : Heap} {ws : va_W} {G : gT}
theorem r_copyi (hx : p.tables.exec = Jvm.exec) (hb : c.code = cc) (hml : c.maxLocals = ls.size) {own : String} {index : Nat} (hown : s.vm.findClass own = some m.cls) (hlink : (Cond.methodLink own index arraycopyName).before args s = true) (hnat : (Cond.native arraycopyName).before args s = true) (hstat : (Cond.static arraycopyName).before args s = true) (hini : (Cond.initialized "java/lang/System").before args s = true)
    (hK : wK G s) (hw : wW G A H0 ws H locs) (q0 q1 : Nat) {a a0 n0 n1 : Nat} {f g : Nat → Int32} (ha0 : ws[q0]? = some (a0, .inl (gI G, n0, .inl f))) (ha1 : ws[q1]? = some (a, .inl (gI G, n1, .inl g)))
    {x y z : Int32} {sp dp n : Nat} (e1 : x = nI sp) (e2 : y = nI dp) (e3 : z = nI n) (h4 : sp + n ≤ n0) (h5 : dp + n ≤ n1) (b0 : n0 < 2 ^ 31) (b1 : n1 < 2 ^ 31)
    (hframes : 1 ≤ R.frames) (hlocals : (rest.map fun v => v.category).sum + (nativeFrameWords "java/lang/System" "arraycopy" 5 + 11) ≤ R.locals) (hdg : decode cc pc = .ok (.invokestatic index, 3)) {ws' : va_W} (hs : ws.set q1 (a, .inl (gI G, n1, .inl (va_cpy f g sp dp n))) = ws')
    (kk : ∀ (H1 : Heap) (locs1 : List Loc), wW G A H0 ws' H1 locs1 → W p l e R s m args below meth c H1 locs1 cells slots Q (F0 m (pc + 3) ls rest)) : W p l e R s m args below meth c H locs cells slots Q (F0 m pc ls (.int z :: .int y :: .ref a :: .int x :: .ref a0 :: rest)) := by
  subst e1
  subst e2
  subst e3
  have c1 : (nI sp).toNatClampNeg = sp := nI_clamp (by omega)
  have c2 : (nI dp).toNatClampNeg = dp := nI_clamp (by omega)
  have c3 : (nI n).toNatClampNeg = n := nI_clamp (by omega)
  refine va_copyi (ty := .int) hx hb hml hown hlink hnat hstat hini hK hw.1 hw.2.1 hw.2.2 q0 q1 0 0 ha0 ha1 rfl rfl rfl (nI_pos (by omega)) (nI_pos (by omega)) (nI_pos (by omega)) (by rw [c1, c3]; exact h4) (by rw [c2, c3]; exact h5) (fun _ _ => rfl) hframes hlocals hdg fun H1 locs1 h1 h2 h3 => ?_
  rw [c1, c2, c3] at h1 h2
  exact kk H1 locs1 (wW.eq hs ⟨h1, h2, h3⟩)
end ROWC
def iMin (x y : Int32) : Int32 := if y < x then y else x
def iMax (x y : Int32) : Int32 := if x < y then y else x
