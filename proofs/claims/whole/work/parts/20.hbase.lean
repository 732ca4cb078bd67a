/-! the law's helpers: they catch what the sketch throws -/
def wLg (G : gT) (a : Nat) (f : Nat → Int64) : va_W := [(a, .inl (gJ G, 1, .inr (.inl f)))]
def xN (U : State) : Prop := va_Nc "java/lang/IllegalArgumentException" "java/lang/IllegalStateException" U ∧ va_Nc "java/lang/IllegalArgumentException" "java/lang/IndexOutOfBoundsException" U ∧ va_Nc "java/lang/IllegalStateException" "java/lang/IllegalArgumentException" U ∧ va_Nc "java/lang/IllegalStateException" "java/lang/IndexOutOfBoundsException" U ∧ va_Nc "java/lang/IndexOutOfBoundsException" "java/lang/IllegalArgumentException" U ∧ va_Nc "java/lang/IndexOutOfBoundsException" "java/lang/IllegalStateException" U
theorem xN.moved {u U : State} (h : u.vm.Alike U.vm) (z : xN u) : xN U := ⟨va_Nc.moved h z.1, va_Nc.moved h z.2.1, va_Nc.moved h z.2.2.1, va_Nc.moved h z.2.2.2.1, va_Nc.moved h z.2.2.2.2.1, va_Nc.moved h z.2.2.2.2.2⟩
def wPreH (G : gT) (X : Nat → Nat) (ws : va_W) (sz : Nat) (U : State) : Prop := wPreX G X ws sz U ∧ xN U
theorem wPreH.blind {G : gT} {X : Nat → Nat} {ws : va_W} {sz : Nat} {as : List Value} : FrameBlind (va_Pc as (wPreH G X ws sz)) := fun a U g mk q =>
  ⟨q.1, (wPreX.blind (as := as) a U g mk ⟨q.1, q.2.1⟩).2, xN.moved (u := U) (U := U.calling g mk a) (Vm.Alike.refl U.vm) q.2.2⟩
abbrev HI (l : Launch) (y : MethodName) (wl : List Cond) (rm : Room) (G : gT) (X : Nat → Nat) (as : List Value) (w w1 : va_W) (sz : Nat) (res : Int32) (mc ms : Nat) : Prop :=
  Met l y wl rm (va_Pc as (wPreH G X w sz)) (va_Qi (fun (r : Int32) (_ : Unit) => r = res) (fun _ t => wPost G (va_A w sz) w1 t) (va_A w sz)) mc ms (va_A w sz)
/-- the answer of a helper: 0, or the number of what was thrown -/
def hcd (a b c : Int32) (ex : Option String) : Int32 := match ex with
  | none => 0
  | some e => if e = "java/lang/IllegalArgumentException" then a else if e = "java/lang/IllegalStateException" then b else c
theorem hcd_n {a b c : Int32} {ex : Option String} (h : ex = none) : hcd a b c ex = 0 := by subst h; rfl
theorem hcd_A {a b c : Int32} {ex : Option String} (h : ex = some "java/lang/IllegalArgumentException") : hcd a b c ex = a := by subst h; rfl
theorem hcd_S {a b c : Int32} {ex : Option String} (h : ex = some "java/lang/IllegalStateException") : hcd a b c ex = b := by subst h; rfl
theorem hcd_B {a b c : Int32} {ex : Option String} (h : ex = some "java/lang/IndexOutOfBoundsException") : hcd a b c ex = c := by subst h; rfl
/-- what a call leaves behind: its start, where it throws -/
def xsel (ex : Option String) (w0 w1 : va_W) : va_W := match ex with
  | none => w1
  | some _ => w0
theorem xsel_n {ex : Option String} {w0 w1 : va_W} (h : ex = none) : xsel ex w0 w1 = w1 := by subst h; rfl
theorem xsel_s {ex : Option String} {E : String} {w0 w1 : va_W} (h : ex = some E) : xsel ex w0 w1 = w0 := by subst h; rfl
theorem h_of {l : Launch} {y : MethodName} {wl wl' : List Cond} {rm : Room} {G : gT} {X : Nat → Nat} {as : List Value} {w : va_W} {sz : Nat} {Qc : (Nat → Prop) → Array Value → State → Outcome → State → Prop} {mc ms : Nat} {cc : ByteArray} {maxL : Nat} {ret : Option FieldType} {hh : List (Nat × Nat × Nat × Nat)} (hy : plainName y.cls = true) (hw : wl = Cond.codeWith y cc maxL ret hh :: wl') (hn : (lg_sl as).length ≤ maxL)
    (body : ∀ (p : Program) (e : Env) (s : State) (m : MethodId) (A : Nat → Prop) (below : List Frame) (meth : Method) (c : Code) (H : Heap) (locs : List Loc) (ls : Array Slot), p.tables.exec = Jvm.exec → c.code = cc → meth.sig.returnType = ret → (∀ x ∈ wl, x.before as.toArray s = true) → s.vm.findClass y.cls = some m.cls → meth.locks = false → meth.name = y.name → c.maxLocals = maxL → c.exceptionTable.toList = tableOf hh → wK G s → (∀ q : Nat, s.heap.size ≤ q → A q) → xF X A s s.heap → xN s → wW G A s.heap w H locs → lv_has ls maxL (lv_args 0 as) →
      W p l e rm s m as.toArray below meth c H locs 0 0 (MQ below (Qc A) as.toArray s mc ms A) (F0 m 0 ls [])) : Met l y wl rm (va_Pc as (wPreH G X w sz)) (Qc (va_A w sz)) mc ms (va_A w sz) := by
  refine va_MetW (cc := cc) (maxL := maxL) (ret := ret) (hh := hh) hy hw ?_
  intro p e s m args below meth c s₁ B hml hv
  obtain ⟨rfl, ⟨⟨hsz, hP, hK, hD0⟩, hF⟩, hN⟩ := hv
  have hl := lv_entry as (n := maxL) hn
  have htab := vx_table (x := y) B (atoms_spec (ws := wl) B.pre _ (by rw [hw]; exact List.mem_cons_self))
  rw [lg_entry_eq]
  generalize (lg_sl as ++ List.replicate (maxL - (lg_sl as).length) Slot.unset).toArray = ls at hl ⊢
  exact body p e s m _ below meth c _ _ ls B.exec B.bytes B.returns (atoms_spec (ws := wl) B.pre) (findClass_of_methodNamed B.named) B.notSynchronized (name_of_methodNamed B.named B.method).1 hml htab hK (fun q h => Or.inr (by rw [← hsz]; exact h)) hF hN ⟨hP, hD0.self, va_S.rf⟩ hl
section HROWS
variable {p : Program} {l : Launch} {e : Env} {R : Room} {s : State} {m : MethodId} {args : Array Value} {below : List Frame} {meth : Method} {c : Code} {H : Heap} {locs : List Loc} {cells slots : Nat} {Q : State → Prop}
variable {cc : ByteArray} {pc : Nat} {ls : Array Slot} {rest : List Value} {A : Nat → Prop} {H0 : Heap} {ws : va_W} {G : gT} {X : Nat → Nat}
theorem h_preS {As : List Value} {u w v : va_W} (hK : wK G s) (hF : xF X A s s.heap) (hN : xN s) (hA : ∀ q, s.heap.size ≤ q → A q) (hw : wW G A s.heap (u ++ (w ++ v)) H locs) : PreS s H (va_Pc As (wPreH G X w H.size)) As :=
  ⟨wPreH.blind, fun U hU hW => ⟨rfl, ⟨⟨by rw [hU], by rw [hU]; exact (w_cut hw).1, wK.moved hW.alike hK, (w_cut hw).2⟩, by rw [hU]; exact xF.at hF hw hA hW⟩, xN.moved hW.alike hN⟩⟩
theorem h_callv {u w v w1 : va_W} {cex : Option String} {mc ms k n : Nat} {st0 : List Value} {a : Array Value}
    (hr : vx_Run p l e R s m args below meth c H locs cells slots mc ms (F0 m pc ls st0) rest (va_Qv (fun (_ : Unit) => cex = none) (fun _ t => wPost G (va_A w H.size) w1 t) (va_A w H.size) a) (xC G (va_A w H.size) w cex) (va_A w H.size))
    (hw : wW G A H0 (u ++ (w ++ v)) H locs) (hA : ∀ q, H0.size ≤ q → A q) (hk : cells + mc = k) (hn : slots + ms = n)
    (kx : ∀ (E : String), cex = some E → ∀ (q9 : Addr) (ce : Cell) (H1 : Heap) (locs1 : List Loc), wW G A H0 (u ++ (w ++ v)) H1 locs1 → H1[q9]? = some ce → ce.vm = .none → s.vm.findClass E = some ce.cls → vx_W p l e R s m args below meth c H1 locs1 k n Q (F0 m pc ls rest) q9)
    (kk : cex = none → ∀ (H1 : Heap) (locs1 : List Loc), wW G A H0 (u ++ (w1 ++ v)) H1 locs1 → W p l e R s m args below meth c H1 locs1 k n Q (F0 m (pc + 3) ls rest)) : W p l e R s m args below meth c H locs cells slots Q (F0 m pc ls st0) := by
  subst hk
  subst hn
  refine vx_callv hr hw.2.2 (fun q _ h => w_free hw hA q h) (w_free hw hA) (fun q _ h => w_free hw hA q h) (fun E ce q9 _ t H1 locs1 ht hvm _ hB _ hk1 hS hcell hv hcl => ?_) fun _ t H1 locs1 ht hvm hn hB _ hk1 hS => ?_
  · obtain ⟨hE, hP1, -, hD1⟩ := hB
    rw [ht] at hP1
    exact kx E hE q9 ce H1 locs1 (w_join hw hA hk1 hS hP1 hD1) hcell hv hcl
  · obtain ⟨hP1, -, hD1⟩ := hB
    rw [ht] at hP1
    exact kk hn H1 locs1 (w_join hw hA hk1 hS hP1 hD1)
theorem h_calli {u w v w1 : va_W} {cex : Option String} {res : Int32} {mc ms k n : Nat} {st0 : List Value} {a : Array Value}
    (hr : vx_Run p l e R s m args below meth c H locs cells slots mc ms (F0 m pc ls st0) rest (va_Qi (fun (r : Int32) (_ : Unit) => cex = none ∧ r = res) (fun _ t => wPost G (va_A w H.size) w1 t) (va_A w H.size) a) (xC G (va_A w H.size) w cex) (va_A w H.size))
    (hw : wW G A H0 (u ++ (w ++ v)) H locs) (hA : ∀ q, H0.size ≤ q → A q) (hk : cells + mc = k) (hn : slots + ms = n)
    (kx : ∀ (E : String), cex = some E → ∀ (q9 : Addr) (ce : Cell) (H1 : Heap) (locs1 : List Loc), wW G A H0 (u ++ (w ++ v)) H1 locs1 → H1[q9]? = some ce → ce.vm = .none → s.vm.findClass E = some ce.cls → vx_W p l e R s m args below meth c H1 locs1 k n Q (F0 m pc ls rest) q9)
    (kk : cex = none → ∀ (H1 : Heap) (locs1 : List Loc), wW G A H0 (u ++ (w1 ++ v)) H1 locs1 → W p l e R s m args below meth c H1 locs1 k n Q (F0 m (pc + 3) ls (.int res :: rest))) : W p l e R s m args below meth c H locs cells slots Q (F0 m pc ls st0) := by
  subst hk
  subst hn
  refine vx_calli hr hw.2.2 (fun q _ h => w_free hw hA q h) (w_free hw hA) (fun q _ h => w_free hw hA q h) (fun E ce q9 _ t H1 locs1 ht hvm _ hB _ hk1 hS hcell hv hcl => ?_) fun r _ t H1 locs1 ht hvm hn hB _ hk1 hS => ?_
  · obtain ⟨hE, hP1, -, hD1⟩ := hB
    rw [ht] at hP1
    exact kx E hE q9 ce H1 locs1 (w_join hw hA hk1 hS hP1 hD1) hcell hv hcl
  · obtain ⟨hP1, -, hD1⟩ := hB
    obtain ⟨hn, rfl⟩ := hn
    rw [ht] at hP1
    exact kk hn H1 locs1 (w_join hw hA hk1 hS hP1 hD1)
end HROWS
theorem hm1 {α : Type} {P : α → Prop} {a : α} (h : P a) : ∀ z ∈ [a], P z := fun z hz => by rw [List.mem_singleton.mp hz]; exact h
theorem hm2 {α : Type} {P : α → Prop} {a b : α} (h : P a) (h2 : P b) : ∀ z ∈ [a, b], P z := fun z hz => by
  rcases List.mem_cons.mp hz with rfl | hz
  · exact h
  · exact hm1 h2 z hz
theorem xca (X : Nat → Nat) {args : Array Value} {s : State} {C : String} (h : xW X s) (hC : Cond.castable C C ∈ xBad) : (Cond.castable C C).before args s = true := va_Nw.use (xBad_tab _ hC) (h.1 _ hC)
/-! what each call may throw -/
theorem xo_c {a b : Option String} {E : String} (h : xo a b = some E) : a = some E ∨ b = some E := by
  cases a with
  | none => exact Or.inr h
  | some e => exact Or.inl h
theorem if_c1 {c : Prop} [Decidable c] {s E : String} (h : (if c then none else some s) = some E) : E = s := by
  split at h
  · cases h
  · exact (Option.some.inj h).symm
theorem if_c0 {c : Prop} [Decidable c] {s E : String} (h : (if c then some s else none) = some E) : E = s := by
  split at h
  · exact (Option.some.inj h).symm
  · cases h
theorem if_c2 {c d : Prop} [Decidable c] [Decidable d] {s E : String} (h : (if c then some s else if d then none else some s) = some E) : E = s := by
  split at h
  · exact (Option.some.inj h).symm
  · exact if_c1 h
theorem exReach_c {u : Int32} {E : String} (h : exReach u = some E) : E = "java/lang/IllegalArgumentException" := if_c2 h
theorem exDepth_c {u : Int32} {E : String} (h : exDepth u = some E) : E = "java/lang/IllegalArgumentException" := if_c2 h
theorem exVar_c {u : Int32} {E : String} (h : exVar u = some E) : E = "java/lang/IllegalArgumentException" := if_c2 h
theorem exIn_c {n : Nat} {u : Int32} {E : String} (h : exIn n u = some E) : E = "java/lang/IndexOutOfBoundsException" := if_c2 h
theorem exSized_c {u : Int32} {E : String} (h : exSized u = some E) : E = "java/lang/IllegalStateException" := if_c0 h
theorem exPoint_c {n : Nat} {u v : Int32} {E : String} (h : exPoint n u v = some E) : E = "java/lang/IllegalArgumentException" ∨ E = "java/lang/IllegalStateException" := by
  rcases xo_c h with h | h
  · exact Or.inl (exReach_c h)
  · rcases xo_c h with h | h
    · exact Or.inl (exReach_c h)
    · exact Or.inr (if_c1 h)
theorem exHint_c {n : Nat} {i u v : Int32} {E : String} (h : exHint n i u v = some E) : E = "java/lang/IllegalArgumentException" ∨ E = "java/lang/IndexOutOfBoundsException" := by
  rcases xo_c h with h | h
  · exact Or.inr (exIn_c h)
  · rcases xo_c h with h | h
    · exact Or.inl (exReach_c h)
    · exact Or.inl (exReach_c h)
theorem exWish_c {n c : Nat} {k i j d : Int32} {E : String} (h : exWish n c k i j d = some E) : E = "java/lang/IllegalArgumentException" ∨ E = "java/lang/IllegalStateException" ∨ E = "java/lang/IndexOutOfBoundsException" := by
  unfold exWish at h
  split at h
  · exact Or.inl (Option.some.inj h).symm
  · split at h
    · split at h
      · rcases xo_c h with h | h
        · exact Or.inr (Or.inr (exIn_c h))
        · exact Or.inr (Or.inl (if_c1 h))
      · rcases xo_c h with h | h
        · exact Or.inl (exReach_c h)
        · split at h
          · exact Or.inl (Option.some.inj h).symm
          · rcases xo_c h with h | h
            · exact Or.inr (Or.inr (exIn_c h))
            · rcases xo_c h with h | h
              · exact Or.inr (Or.inr (exIn_c h))
              · exact Or.inr (Or.inl (if_c1 h))
    · exact Or.inl (Option.some.inj h).symm
theorem exType_c {c : Nat} {k : Nat → Int32} {w d : Int32} {E : String} (h : exType c k w d = some E) : E = "java/lang/IllegalArgumentException" ∨ E = "java/lang/IllegalStateException" ∨ E = "java/lang/IndexOutOfBoundsException" := by
  rcases xo_c h with h | h
  · exact Or.inr (Or.inr (exIn_c h))
  · rcases xo_c h with h | h
    · exact Or.inr (Or.inl (exSized_c h))
    · exact Or.inl (exReach_c h)
theorem exTell_c {c : Nat} {k : Nat → Int32} {v w d : Int32} {E : String} (h : exTell c k v w d = some E) : E = "java/lang/IllegalArgumentException" ∨ E = "java/lang/IllegalStateException" ∨ E = "java/lang/IndexOutOfBoundsException" := by
  rcases xo_c h with h | h
  · exact Or.inl (exVar_c h)
  · rcases xo_c h with h | h
    · exact Or.inl (exReach_c h)
    · rcases xo_c h with h | h
      · exact Or.inr (Or.inr (exIn_c h))
      · exact Or.inr (Or.inl (exSized_c h))
theorem exBase_c {n : Nat} {i j h9 : Int32} {E : String} (h : exBase n i j h9 = some E) : E = "java/lang/IllegalArgumentException" ∨ E = "java/lang/IndexOutOfBoundsException" := by
  rcases xo_c h with h | h
  · exact Or.inr (exIn_c h)
  · rcases xo_c h with h | h
    · exact Or.inr (exIn_c h)
    · exact Or.inl (exDepth_c h)
theorem exPock_c {n q : Nat} {f i j d t : Int32} {E : String} (h : exPock n q f i j d t = some E) : E = "java/lang/IllegalArgumentException" ∨ E = "java/lang/IllegalStateException" ∨ E = "java/lang/IndexOutOfBoundsException" := by
  rcases xo_c h with h | h
  · exact Or.inr (Or.inr (exIn_c h))
  · rcases xo_c h with h | h
    · exact Or.inr (Or.inr (exIn_c h))
    · rcases xo_c h with h | h
      · split at h
        · cases h
        · exact Or.inr (Or.inr (exIn_c h))
      · rcases xo_c h with h | h
        · exact Or.inl (exDepth_c h)
        · split at h
          · exact Or.inr (Or.inl (Option.some.inj h).symm)
          · exact Or.inr (Or.inl (if_c1 h))
def b2l (r : Int32) : Int64 := if r = 0 then 0 else 1
