/-! what the makers ask for besides their words: array classes over rows and blocks, the private makers of nest mates -/
def xAo (U : State) : Prop := (Cond.arrayOver (.array .int)).before #[] U = true
theorem xAo.moved {u U : State} (hvm : u.vm.Alike U.vm) (h : xAo u) : xAo U := by
  obtain ⟨comp, c, k, h1, h2, h3, h4, h5⟩ := arrayOver_specB (t := .int) h
  obtain ⟨k', hk', he⟩ := hvm.2.2 _ _ h3
  have hi : (U.vm.classes.findIdx? fun (x : Class) => match x.kind with | .array component _ => component == comp | _ => false) = some c := by
    have e1 := va_idx_bare u.vm comp
    have e2 := va_idx_bare U.vm comp
    first | rw [hvm.bare_eq] at e1 | rw [← hvm.bare_eq] at e1
    exact e2.symm.trans (e1.trans h2)
  have hkind : k'.kind = .array comp (.array .int) := by rw [he]; exact h4
  have f1 : U.vm.findClass (FieldType.array .int).toString = some comp := by rw [hvm.findClass]; exact h1
  have f2 : U.vm.findClass ("[" ++ (FieldType.array .int).toString) = some c := by rw [hvm.findClass]; exact h5
  unfold xAo Cond.before Cond.holds
  simp only [Cond.value]
  rw [f1, Option.bind_some]
  refine (congrArg (fun o : Option Nat => (o.bind (fun c => (U.vm.classes[c]?).map fun (k : Class) => match k.kind with | .array _ ty => decide (ty = FieldType.array .int) && decide (U.vm.findClass ("[" ++ (FieldType.array .int).toString) = some c) | _ => false) == some true)) hi).trans ?_
  simp [hk', hkind, f2]
def xM (U : State) : Prop := xAo U ∧ va_AO "PartSketch$Block" U ∧ va_Nw (.methodLinkNest RX4 11 yX0_init RX4) U ∧ va_Nw (.methodLinkNest RX4 21 yX3_init RX4) U ∧ va_Nw (.methodLinkNest RX2 24 yX1_init RX4) U
theorem xM.warm {s U : State} (hW : s.WarmedH U.vm) (z : xM s) : xM U := ⟨z.1.moved hW.alike, z.2.1.moved hW.alike, va_Nw.warmM hW z.2.2.1, va_Nw.warmM hW z.2.2.2.1, va_Nw.warmM hW z.2.2.2.2⟩
theorem xM.same {u U : State} (h : u.vm = U.vm) (z : xM u) : xM U := ⟨z.1.moved (by rw [h]; exact Vm.Alike.refl _), z.2.1.moved (by rw [h]; exact Vm.Alike.refl _), va_Nw.same rfl h z.2.2.1, va_Nw.same rfl h z.2.2.2.1, va_Nw.same rfl h z.2.2.2.2⟩
def wPreN (G : gT) (ws : va_W) (sz : Nat) (U : State) : Prop := wPre G ws sz U ∧ xM U
theorem wPreN.blind {G : gT} {ws : va_W} {sz : Nat} {as : List Value} : FrameBlind (va_Pc as (wPreN G ws sz)) := fun a U g mk q =>
  ⟨q.1, (wPre.blind (as := as) a U g mk ⟨q.1, q.2.1⟩).2, xM.same (u := U) (U := U.calling g mk a) rfl q.2.2⟩
abbrev NC {S : Type} (l : Launch) (y : MethodName) (wl : List Cond) (rm : Room) (G : gT) (as : List Value) (w : va_W) (w1 : S → va_W) (sz : Nat) (mc ms : Nat) : Prop :=
  Met l y wl rm (va_Pc as (wPreN G w sz)) (va_Qv (fun (_ : S) => True) (fun u t => wPost G (va_A w sz) (w1 u) t) (va_A w sz)) mc ms (va_A w sz)
theorem n_of {l : Launch} {y : MethodName} {wl wl' : List Cond} {rm : Room} {G : gT} {as : List Value} {w : va_W} {sz : Nat} {Qc : (Nat → Prop) → Array Value → State → Outcome → State → Prop} {mc ms : Nat} {cc : ByteArray} {maxL : Nat} {ret : Option FieldType} (hy : plainName y.cls = true) (hw : wl = Cond.code y cc maxL ret :: wl') (hn : (lg_sl as).length ≤ maxL)
    (body : ∀ (p : Program) (e : Env) (s : State) (m : MethodId) (A : Nat → Prop) (below : List Frame) (meth : Method) (c : Code) (H : Heap) (locs : List Loc) (ls : Array Slot), p.tables.exec = Jvm.exec → c.code = cc → meth.sig.returnType = ret → (∀ x ∈ wl, x.before as.toArray s = true) → s.vm.findClass y.cls = some m.cls → meth.locks = false → meth.name = y.name → c.maxLocals = maxL → wK G s → (∀ q : Nat, s.heap.size ≤ q → A q) → xM s → wW G A s.heap w H locs → lv_has ls maxL (lv_args 0 as) →
      W p l e rm s m as.toArray below meth c H locs 0 0 (MQ below (Qc A) as.toArray s mc ms A) (F0 m 0 ls [])) : Met l y wl rm (va_Pc as (wPreN G w sz)) (Qc (va_A w sz)) mc ms (va_A w sz) := by
  refine Met.ofW (cc := cc) (maxL := maxL) (ret := ret) hy hw ?_
  intro p e s m args below meth c s₁ B hml hv
  obtain ⟨rfl, ⟨hsz, hP, hK, hD0⟩, hM⟩ := hv
  have hl := lv_entry as (n := maxL) hn
  rw [lg_entry_eq]
  generalize (lg_sl as ++ List.replicate (maxL - (lg_sl as).length) Slot.unset).toArray = ls at hl ⊢
  exact body p e s m _ below meth c _ _ ls B.exec B.bytes B.returns (atoms_spec (ws := wl) B.pre) (findClass_of_methodNamed B.named) B.notSynchronized (name_of_methodNamed B.named B.method).1 hml hK (fun q h => Or.inr (by rw [← hsz]; exact h)) hM ⟨hP, hD0.self, va_S.rf⟩ hl
