/-! methods that throw: what they ask for at their start, their forms, their rows -/
abbrev eA : String := "java/lang/IllegalArgumentException"
abbrev eS : String := "java/lang/IllegalStateException"
abbrev eB : String := "java/lang/IndexOutOfBoundsException"
def xBad : List Cond := [.castable "java/lang/IllegalArgumentException" "java/lang/IllegalArgumentException", .castable "java/lang/IllegalStateException" "java/lang/IllegalStateException", .castable "java/lang/IndexOutOfBoundsException" "java/lang/IndexOutOfBoundsException", .declares ⟨"java/lang/RuntimeException", "<init>", "(Ljava/lang/String;)V"⟩, .declares ⟨"java/lang/Exception", "<init>", "(Ljava/lang/String;)V"⟩, .declares ⟨"java/lang/Throwable", "<init>", "(Ljava/lang/String;)V"⟩]
def xStr : List (Nat × String) := [(162, "a number is not from -100 to 100"), (43, "there are 16 points"), (170, "there is no such point"), (57, "the kind is not from 0 to 2"), (60, "one and other are the same point"), (65, "there are 40 wishes"), (173, "there is no such wish"), (178, "a wish of the kind 2 has no size"), (166, "the variant is not from 0 to 3"), (164, "a height or depth is not from 1 to 50"), (180, "there is no such pocket"), (138, "there is no base"), (143, "there are 8 pockets")]
def xW (X : Nat → Nat) (U : State) : Prop := (∀ w ∈ xBad, va_Nw w U) ∧ ∀ q ∈ xStr, vk_R RX4 q.1 q.2 (X q.1) U
theorem xBad_tab : ∀ w ∈ xBad, w.onTables = true := by decide +kernel
theorem xW.same {X : Nat → Nat} {u U : State} (h : u.vm = U.vm) (z : xW X u) : xW X U := ⟨fun w hw => va_Nw.same (xBad_tab w hw) h (z.1 w hw), fun q hq => vk_R.same h.symm (z.2 q hq)⟩
theorem xW.warm {X : Nat → Nat} {s U : State} (hW : s.WarmedH U.vm) (z : xW X s) : xW X U := by
  refine ⟨fun w hw => ?_, fun q hq => vk_R.warm hW (z.2 q hq)⟩
  have h := z.1 w hw
  simp only [xBad, List.mem_cons, List.not_mem_nil, or_false] at hw
  rcases hw with rfl | rfl | rfl | rfl | rfl | rfl
  · exact va_Nw.warmC hW h
  · exact va_Nw.warmC hW h
  · exact va_Nw.warmC hW h
  · exact va_Nw.warmD hW h
  · exact va_Nw.warmD hW h
  · exact va_Nw.warmD hW h
def xF (X : Nat → Nat) (A : Nat → Prop) (U : State) (H : Heap) : Prop := vx_Zq Bundle.tN "UNASSIGNED_STACK" Bundle.steD A U H ∧ vx_Zq Bundle.tN "SUPPRESSED_SENTINEL" Bundle.listD A U H ∧ xW X U
theorem xF.at {X : Nat → Nat} {G : gT} {A : Nat → Prop} {s U : State} {H : Heap} {u w v : va_W} {locs : List Loc} (h : xF X A s s.heap) (hw : wW G A s.heap (u ++ (w ++ v)) H locs) (hA : ∀ q, s.heap.size ≤ q → A q) (hW : s.WarmedH U.vm) : xF X (va_A w H.size) U H :=
  ⟨vx_Zq.moved hW.alike ((h.1.kept fun a h1 h2 => hw.2.2.2.1 a h1 h2).narrow (w_free hw hA)), vx_Zq.moved hW.alike ((h.2.1.kept fun a h1 h2 => hw.2.2.2.1 a h1 h2).narrow (w_free hw hA)), xW.warm hW h.2.2⟩
def wPreX (G : gT) (X : Nat → Nat) (ws : va_W) (sz : Nat) (U : State) : Prop := wPre G ws sz U ∧ xF X (va_A ws sz) U U.heap
theorem wPreX.blind {G : gT} {X : Nat → Nat} {ws : va_W} {sz : Nat} {as : List Value} : FrameBlind (va_Pc as (wPreX G X ws sz)) := fun a U g mk q => by
  obtain ⟨q0, ⟨q1, qP, qK, qD⟩, qU, qN, qW⟩ := q
  exact ⟨q0, ⟨q1, qP, wK.moved (u := U) (U := U.calling g mk a) (Vm.Alike.refl U.vm) qK, qD⟩, vx_Zq.moved (u := U) (U := U.calling g mk a) (Vm.Alike.refl U.vm) qU, vx_Zq.moved (u := U) (U := U.calling g mk a) (Vm.Alike.refl U.vm) qN, xW.same (u := U) (U := U.calling g mk a) rfl qW⟩
abbrev xC (G : gT) (A : Nat → Prop) (w : va_W) (ex : Option String) : String → State → State → Prop := vx_X (fun _ : Unit => True) (fun E _ t => ex = some E ∧ wPost G A w t) A
abbrev XI (l : Launch) (y : MethodName) (wl : List Cond) (rm : Room) (G : gT) (X : Nat → Nat) (as : List Value) (w w1 : va_W) (sz : Nat) (ex : Option String) (res : Int32) (mc ms : Nat) : Prop :=
  vx_Met l y wl rm (va_Pc as (wPreX G X w sz)) (va_Qi (fun (r : Int32) (_ : Unit) => ex = none ∧ r = res) (fun _ t => wPost G (va_A w sz) w1 t) (va_A w sz)) (xC G (va_A w sz) w ex) mc ms (va_A w sz)
abbrev XV (l : Launch) (y : MethodName) (wl : List Cond) (rm : Room) (G : gT) (X : Nat → Nat) (as : List Value) (w w1 : va_W) (sz : Nat) (ex : Option String) (mc ms : Nat) : Prop :=
  vx_Met l y wl rm (va_Pc as (wPreX G X w sz)) (va_Qv (fun (_ : Unit) => ex = none) (fun _ t => wPost G (va_A w sz) w1 t) (va_A w sz)) (xC G (va_A w sz) w ex) mc ms (va_A w sz)
/-- the first that throws -/
def xo (a b : Option String) : Option String := match a with | none => b | some e => some e
theorem xo_n {a b : Option String} (h : a = none) : xo a b = b := by subst h; rfl
theorem xo_s {a b : Option String} {e : String} (h : a = some e) : xo a b = some e := by subst h; rfl
theorem x_of {l : Launch} {y : MethodName} {wl wl' : List Cond} {rm : Room} {G : gT} {X : Nat → Nat} {as : List Value} {w : va_W} {sz : Nat} {Qc : (Nat → Prop) → Array Value → State → Outcome → State → Prop} {XC : (Nat → Prop) → String → State → State → Prop} {mc ms : Nat} {cc : ByteArray} {maxL : Nat} {ret : Option FieldType} (hy : plainName y.cls = true) (hw : wl = Cond.code y cc maxL ret :: wl') (hn : (lg_sl as).length ≤ maxL)
    (body : ∀ (p : Program) (e : Env) (s : State) (m : MethodId) (A : Nat → Prop) (below : List Frame) (meth : Method) (c : Code) (H : Heap) (locs : List Loc) (ls : Array Slot), p.tables.exec = Jvm.exec → c.code = cc → meth.sig.returnType = ret → (∀ x ∈ wl, x.before as.toArray s = true) → s.vm.findClass y.cls = some m.cls → meth.locks = false → meth.name = y.name → c.maxLocals = maxL → (∀ x ∈ c.exceptionTable.toList, False) → wK G s → (∀ q : Nat, s.heap.size ≤ q → A q) → xF X A s s.heap → wW G A s.heap w H locs → lv_has ls maxL (lv_args 0 as) →
      W p l e rm s m as.toArray below meth c H locs 0 0 (vx_MQ below (Qc A) (XC A) as.toArray s mc ms A) (F0 m 0 ls [])) : vx_Met l y wl rm (va_Pc as (wPreX G X w sz)) (Qc (va_A w sz)) (XC (va_A w sz)) mc ms (va_A w sz) := by
  refine vx_ofW (cc := cc) (maxL := maxL) (ret := ret) hy hw ?_
  intro p e s m args below meth c s₁ B hml htab hv
  obtain ⟨rfl, ⟨hsz, hP, hK, hD0⟩, hF⟩ := hv
  have hl := lv_entry as (n := maxL) hn
  rw [lg_entry_eq]
  generalize (lg_sl as ++ List.replicate (maxL - (lg_sl as).length) Slot.unset).toArray = ls at hl ⊢
  exact body p e s m _ below meth c _ _ ls B.exec B.bytes B.returns (atoms_spec (ws := wl) B.pre) (findClass_of_methodNamed B.named) B.notSynchronized (name_of_methodNamed B.named B.method).1 hml htab hK (fun q h => Or.inr (by rw [← hsz]; exact h)) hF ⟨hP, hD0.self, va_S.rf⟩ hl
section XROWS
variable {p : Program} {l : Launch} {e : Env} {R : Room} {s : State} {m : MethodId} {args : Array Value} {below : List Frame} {meth : Method} {c : Code} {H : Heap} {locs : List Loc} {cells slots : Nat} {Q : State → Prop}
variable {cc : ByteArray} {pc : Nat} {ls : Array Slot} {rest : List Value} {A : Nat → Prop} {ws : va_W} {G : gT} {X : Nat → Nat}
theorem x_preS {As : List Value} {u w v : va_W} (hK : wK G s) (hF : xF X A s s.heap) (hA : ∀ q, s.heap.size ≤ q → A q) (hw : wW G A s.heap (u ++ (w ++ v)) H locs) : PreS s H (va_Pc As (wPreX G X w H.size)) As :=
  ⟨wPreX.blind, fun U hU hW => ⟨rfl, ⟨by rw [hU], by rw [hU]; exact (w_cut hw).1, wK.moved hW.alike hK, (w_cut hw).2⟩, by rw [hU]; exact xF.at hF hw hA hW⟩⟩
theorem x_preV {As : List Value} {u w v : va_W} {b q0 ci : Nat} {fs : List Value} {r : vw_C} {C : String} (hK : wK G s) (hF : xF X A s s.heap) (hA : ∀ q, s.heap.size ≤ q → A q) (hw : wW G A s.heap (u ++ (w ++ v)) H locs) (hb0 : (u ++ (w ++ v))[q0]? = some (b, .inr (ci, fs))) (hc0 : vwCl[ci]? = some r) (hC : r.1 = C) : PreV s H C b (va_Pc (.ref b :: As) (wPreX G X w H.size)) As :=
  ⟨wPreX.blind, by rw [← hC]; exact va_recv hK hw.1 (ci := ci) (q0 := q0) hc0 hb0, fun U hU hW => ⟨rfl, ⟨by rw [hU], by rw [hU]; exact (w_cut hw).1, wK.moved hW.alike hK, (w_cut hw).2⟩, by rw [hU]; exact xF.at hF hw hA hW⟩⟩
theorem x_callv {u w v w1 w0 : va_W} {cex ex : Option String} {Qc : Array Value → State → Outcome → State → Prop} {mc ms k n mc0 ms0 : Nat} {st0 : List Value} {a : Array Value}
    (hr : vx_Run p l e R s m args below meth c H locs cells slots mc ms (F0 m pc ls st0) rest (va_Qv (fun (_ : Unit) => cex = none) (fun _ t => wPost G (va_A w H.size) w1 t) (va_A w H.size) a) (xC G (va_A w H.size) w cex) (va_A w H.size))
    (hw : wW G A s.heap (u ++ (w ++ v)) H locs) (hA : ∀ q, s.heap.size ≤ q → A q) (hk : cells + mc = k) (hn : slots + ms = n) (htab : ∀ x ∈ c.exceptionTable.toList, False) (hlocks : meth.locks = false) (hK : wK G s)
    (hex : ∀ E, cex = some E → ex = some E) (hw0 : u ++ (w ++ v) = w0) (hc : k ≤ mc0) (hs : n ≤ ms0)
    (kk : cex = none → ∀ (H1 : Heap) (locs1 : List Loc), wW G A s.heap (u ++ (w1 ++ v)) H1 locs1 → W p l e R s m args below meth c H1 locs1 k n (vx_MQ below Qc (xC G A w0 ex) args s mc0 ms0 A) (F0 m (pc + 3) ls rest)) : W p l e R s m args below meth c H locs cells slots (vx_MQ below Qc (xC G A w0 ex) args s mc0 ms0 A) (F0 m pc ls st0) := by
  subst hk
  subst hn
  subst hw0
  refine vx_callv hr hw.2.2 (fun q _ h => w_free hw hA q h) (w_free hw hA) (fun q _ h => w_free hw hA q h) (fun E ce q9 _ t H1 locs1 ht hvm _ hB _ hk1 hS hcell hv hcl => ?_) fun _ t H1 locs1 ht hvm hn hB _ hk1 hS => ?_
  · obtain ⟨hE, hP1, -, hD1⟩ := hB
    rw [ht] at hP1
    have hw1 := w_join hw hA hk1 hS hP1 hD1
    exact vx_out (fun x hx => (htab x hx).elim) hlocks hcell hv hcl (fun t' ht' hW' => ⟨(), trivial, ⟨hex E hE, by rw [ht']; exact hw1.1, wK.moved hW' hK, hw1.2.1⟩, hw1.2.2.F ht'⟩) hw1.2.2.2.2 hc hs
  · obtain ⟨hP1, -, hD1⟩ := hB
    rw [ht] at hP1
    exact kk hn H1 locs1 (w_join hw hA hk1 hS hP1 hD1)
theorem x_throw {cls text : String} {ik is ic : Nat} {ex : Option String} {w0 : va_W} {Qc : Array Value → State → Outcome → State → Prop} {mc ms : Nat} (hx : p.tables.exec = Jvm.exec) (hb : c.code = cc) (hl : l.stackTraces = false)
    (hown : s.vm.findClass RX4 = some m.cls) (hcls : Bundle.fit cls = true) (hk : (Cond.classLink RX4 ik cls).before args s = true) (hini : (Cond.initialized cls).before args s = true) (hq : (is, text) ∈ xStr)
    (hat : ∀ w ∈ (vx_atS RX4 ic cls ["java/lang/RuntimeException", "java/lang/Exception"]).filter goodWord, w.before args s = true) (hbad : ∀ w ∈ (vx_atS RX4 ic cls ["java/lang/RuntimeException", "java/lang/Exception"]).filter (fun w => !goodWord w), w ∈ xBad)
    (hgood : ∀ w ∈ Cond.classLink RX4 ik cls :: Cond.initialized cls :: vx_atS RX4 ic cls ["java/lang/RuntimeException", "java/lang/Exception"], vx_ot w = true)
    (hF : xF X A s s.heap) (hK : wK G s) (hw : wW G A s.heap ws H locs) (hsize : ls.size = c.maxLocals)
    (d0 : decode cc pc = .ok (.new ik, 3)) (d3 : decode cc (pc + 3) = .ok (.dup, 1)) (d4 : decode cc (pc + 4) = .ok (.ldc is, 2)) (d6 : decode cc (pc + 6) = .ok (.invokespecial ic, 3)) (d9 : decode cc (pc + 9) = .ok (.athrow, 1))
    (htab : ∀ x ∈ c.exceptionTable.toList, False) (hRframes : 5 < R.frames) (hRlocals : (rest.map fun v => v.category).sum + 82 ≤ R.locals) (hRcells : cells + 1 ≤ R.cells) (hRslots : slots + 6 ≤ R.slots) (hlocks : meth.locks = false)
    (hex : ex = some cls) (hws : ws = w0) (hc : cells + 1 ≤ mc) (hs : slots + 6 ≤ ms) :
    W p l e R s m args below meth c H locs cells slots (vx_MQ below Qc (xC G A w0 ex) args s mc ms A) (F0 m pc ls rest) := by
  subst hws
  have hstr := hF.2.2.2 (is, text) hq
  refine vx_throwS (names := ["java/lang/RuntimeException", "java/lang/Exception"]) hx hb hl hown hcls (by decide +kernel) hk hini hstr (vx_hat (B := xBad) hat hbad fun w hw9 => va_Nw.use (xBad_tab w hw9) (hF.2.2.1 w hw9)) hgood hF.1 hF.2.1 hw.2.2 hsize d0 d3 d4 d6 d9 (fun x hx => (htab x hx).elim) hRframes hRlocals hRcells hRslots hlocks ?_ hw.2.2.2.2 hc hs
  intro t hvm hsz hk1
  exact ⟨(), trivial, ⟨hex, hw.1.kept fun k q hq => hk1 q.1 (hw.1 k q hq).lt, wK.moved hvm hK, hw.2.1⟩, Nat.le_trans hw.2.2.1 hsz, fun q h1 h2 => (hk1 q (Nat.lt_of_lt_of_le h1 hw.2.2.1)).trans (hw.2.2.2.1 q h1 h2)⟩
theorem x_iret {XC : String → State → State → Prop} {ex : Option String} {res v : Int32} {w1 : va_W} {mc ms : Nat} (hx : p.tables.exec = Jvm.exec) (hb : c.code = cc) (hr : meth.sig.returnType = some .int) (hlocks : meth.locks = false) (hK : wK G s) (hw : wW G A s.heap ws H locs) (hc : cells ≤ mc) (hs : slots ≤ ms) (hdg : decode cc pc = .ok (.ireturn, 1)) (hex : ex = none) (hres : v = res) (hws : ws = w1) :
    W p l e R s m args below meth c H locs cells slots (vx_MQ below (va_Qi (fun (r : Int32) (_ : Unit) => ex = none ∧ r = res) (fun _ t => wPost G A w1 t) A) XC args s mc ms A) (F0 m pc ls [.int v]) := by
  subst hws
  refine vx_ret (W.widen hc hs ?_)
  exact W.iret hx hb hr (fun t ht hW => ⟨⟨v, (), rfl, ⟨hex, hres⟩, by rw [ht]; exact hw.1, wK.moved hW.alike hK, hw.2.1⟩, hw.2.2.F ht⟩) hw.2.2.2.2 hdg hlocks
theorem x_zret {XC : String → State → State → Prop} {ex : Option String} {res v : Int32} {w1 : va_W} {mc ms : Nat} (hx : p.tables.exec = Jvm.exec) (hb : c.code = cc) (hr : meth.sig.returnType = some .boolean) (hlocks : meth.locks = false) (hK : wK G s) (hw : wW G A s.heap ws H locs) (hc : cells ≤ mc) (hs : slots ≤ ms) (hdg : decode cc pc = .ok (.ireturn, 1)) (hv : narrow .boolean (.int v) = .int v) (hex : ex = none) (hres : v = res) (hws : ws = w1) :
    W p l e R s m args below meth c H locs cells slots (vx_MQ below (va_Qi (fun (r : Int32) (_ : Unit) => ex = none ∧ r = res) (fun _ t => wPost G A w1 t) A) XC args s mc ms A) (F0 m pc ls [.int v]) := by
  subst hws
  refine vx_ret (W.widen hc hs ?_)
  exact W.zret hx hb hr hv (fun t ht hW => ⟨⟨v, (), rfl, ⟨hex, hres⟩, by rw [ht]; exact hw.1, wK.moved hW.alike hK, hw.2.1⟩, hw.2.2.F ht⟩) hw.2.2.2.2 hdg
theorem x_vret {XC : String → State → State → Prop} {ex : Option String} {w1 : va_W} {mc ms : Nat} (hx : p.tables.exec = Jvm.exec) (hb : c.code = cc) (hr : meth.sig.returnType = none) (hlocks : meth.locks = false) (hK : wK G s) (hw : wW G A s.heap ws H locs) (hc : cells ≤ mc) (hs : slots ≤ ms) (hdg : decode cc pc = .ok (.return_, 1)) (hex : ex = none) (hws : ws = w1) :
    W p l e R s m args below meth c H locs cells slots (vx_MQ below (va_Qv (fun (_ : Unit) => ex = none) (fun _ t => wPost G A w1 t) A) XC args s mc ms A) (F0 m pc ls []) := by
  subst hws
  refine vx_ret (W.widen hc hs ?_)
  exact W.vret hx hb hr (fun t ht hW => ⟨⟨(), rfl, hex, by rw [ht]; exact hw.1, wK.moved hW.alike hK, hw.2.1⟩, hw.2.2.F ht⟩) hw.2.2.2.2 hdg
end XROWS
theorem xbA : ∀ w ∈ (vx_atS RX4 59 "java/lang/IllegalArgumentException" ["java/lang/RuntimeException", "java/lang/Exception"]).filter (fun w => !goodWord w), w ∈ xBad := by decide +kernel
theorem xbS : ∀ w ∈ (vx_atS RX4 45 "java/lang/IllegalStateException" ["java/lang/RuntimeException", "java/lang/Exception"]).filter (fun w => !goodWord w), w ∈ xBad := by decide +kernel
theorem xbB : ∀ w ∈ (vx_atS RX4 172 "java/lang/IndexOutOfBoundsException" ["java/lang/RuntimeException", "java/lang/Exception"]).filter (fun w => !goodWord w), w ∈ xBad := by decide +kernel
theorem xgA : ∀ w ∈ Cond.classLink RX4 55 "java/lang/IllegalArgumentException" :: Cond.initialized "java/lang/IllegalArgumentException" :: vx_atS RX4 59 "java/lang/IllegalArgumentException" ["java/lang/RuntimeException", "java/lang/Exception"], vx_ot w = true := by decide +kernel
theorem xgS : ∀ w ∈ Cond.classLink RX4 41 "java/lang/IllegalStateException" :: Cond.initialized "java/lang/IllegalStateException" :: vx_atS RX4 45 "java/lang/IllegalStateException" ["java/lang/RuntimeException", "java/lang/Exception"], vx_ot w = true := by decide +kernel
theorem xgB : ∀ w ∈ Cond.classLink RX4 168 "java/lang/IndexOutOfBoundsException" :: Cond.initialized "java/lang/IndexOutOfBoundsException" :: vx_atS RX4 172 "java/lang/IndexOutOfBoundsException" ["java/lang/RuntimeException", "java/lang/Exception"], vx_ot w = true := by decide +kernel
