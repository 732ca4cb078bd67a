/-! makers: new things at the end of the world -/
section CROWS
variable {p : Program} {l : Launch} {e : Env} {R : Room} {s : State} {m : MethodId} {args : Array Value} {below : List Frame} {meth : Method} {c : Code} {H : Heap} {locs : List Loc} {cells slots : Nat} {Q : State → Prop}
variable {cc : ByteArray} {pc : Nat} {ls : Array Slot} {rest : List Value} {A : Nat → Prop} {H0 : Heap} {ws : va_W} {G : gT}
theorem r_newa (hx : p.tables.exec = Jvm.exec) (hb : c.code = cc) {atype : ArrayType} (harr : (Cond.arrayClass (newarray.typeOf atype)).before args s = true) {ty : FieldType} (hty : newarray.typeOf atype = ty) (hK : wK G s) (hw : wW G A H0 ws H locs) (hA : ∀ q, H0.size ≤ q → A q)
    {n : Int32} {N' k1 n1 : Nat} {a0 : vp_A} (ha : ∀ cA : ClassId, vp_cell cA a0 = arrV cA N' (fun _ => defaultValue ty)) (hn : ¬ n < 0) (hN : n.toNatClampNeg = N') (hbytes : N' * componentBytes ty ≤ 536870912) (hcells : cells + 1 ≤ R.cells) (hslots : slots + N' ≤ R.slots) (hdg : decode cc pc = .ok (.newarray atype, 2)) {gc : ClassId} (hg : ∀ cA : ClassId, va_RA s cA ty → cA = gc) (hk1 : cells + 1 = k1) (hn1 : slots + N' = n1)
    (kk : ∀ (q : Nat) (H1 : Heap), wW G A H0 (ws ++ [(q, .inl (gc, a0))]) H1 locs → W p l e R s m args below meth c H1 locs k1 n1 Q (F0 m (pc + 2) ls (.ref q :: rest))) : W p l e R s m args below meth c H locs cells slots Q (F0 m pc ls (.int n :: rest)) := by
  subst hk1
  subst hn1
  refine va_newa hx hb harr hty hK hw.1 hw.2.1 hw.2.2 hA ha hn hN hbytes hcells hslots hdg fun q cA H1 h1 h2 h3 h4 => ?_
  have e := hg cA (h1.2 5 (cA, ty) rfl).2
  subst e
  exact kk q H1 ⟨h2, h3, h4⟩
theorem g_int {cA : ClassId} (hK : wK G s) (h : va_RA s cA .int) : cA = gI G := Option.some.inj ((va_nm_int h).symm.trans (va_nm_int (hK.2 0 _ rfl).2))
theorem g_bool {cA : ClassId} (hK : wK G s) (h : va_RA s cA .boolean) : cA = gZ G := Option.some.inj ((va_nm_boolean h).symm.trans (va_nm_boolean (hK.2 1 _ rfl).2))
theorem g_long {cA : ClassId} (hK : wK G s) (h : va_RA s cA .long) : cA = gJ G := Option.some.inj ((va_nm_long h).symm.trans (va_nm_long (hK.2 4 _ rfl).2))
theorem g_blk {cA : ClassId} (hK : wK G s) (h : va_RA s cA (.object "PartSketch$Block")) : cA = gB G := Option.some.inj ((va_nmO h rfl).symm.trans (va_nmO (hK.2 2 _ rfl).2 rfl))
theorem r_newo (hx : p.tables.exec = Jvm.exec) (hb : c.code = cc) {own C : String} {T : u_T} {N ci index k1 n1 : Nat} {Ts : List Cond} (hts : ∀ w ∈ Ts, w.before args s = true) (hin : ∀ w ∈ u_ws C T N, w ∈ Ts) (ty : Nat → FieldType) (hty : ∀ k, k < N → parseFieldDescriptor (T k).2.2.1 = some (ty k)) (hown : s.vm.findClass own = some m.cls) (hcl : Cond.classLink own index C ∈ Ts) (hinst : Cond.instantiable C N ∈ Ts) (hini : Cond.initialized C ∈ Ts)
    (hK : wK G s) (hw : wW G A H0 ws H locs) (hA : ∀ q, H0.size ≤ q → A q) (hc : vwCl[ci]? = some (C, T, N)) {fs : List Value} (hfs : ∀ j, j < N → defaultValue (ty j) = vp_V fs j) (hcells : cells + 1 ≤ R.cells) (hslots : slots + N ≤ R.slots) (hdg : decode cc pc = .ok (.new index, 3)) (hk1 : cells + 1 = k1) (hn1 : slots + N = n1)
    (kk : ∀ (q : Nat) (H1 : Heap), wW G A H0 (ws ++ [(q, .inr (ci, fs))]) H1 locs → W p l e R s m args below meth c H1 locs k1 n1 Q (F0 m (pc + 3) ls (.ref q :: rest))) : W p l e R s m args below meth c H locs cells slots Q (F0 m pc ls rest) := by
  subst hk1
  subst hn1
  exact va_new hx hb hts hin ty hty hown (hts _ hcl) (hts _ hinst) (hts _ hini) hK hw.1 hw.2.1 hw.2.2 hA hc hfs hcells hslots hdg fun q H1 h1 h2 h3 => kk q H1 ⟨h1, h2, h3⟩
theorem r_newB (hx : p.tables.exec = Jvm.exec) (hb : c.code = cc) {own : String} {index k1 n1 : Nat} (hown : s.vm.findClass own = some m.cls) (hclink : (Cond.classLink own index "PartSketch$Block").before args s = true) (hover : (Cond.arrayOver (.object "PartSketch$Block")).before args s = true) (hK : wK G s) (hw : wW G A H0 ws H locs) (hA : ∀ q, H0.size ≤ q → A q)
    {n : Int32} {N' : Nat} (hn : ¬ n < 0) (hN : n.toNatClampNeg = N') (hbytes : N' * 4 ≤ 536870912) (hcells : cells + 1 ≤ R.cells) (hslots : slots + N' ≤ R.slots) (hdg : decode cc pc = .ok (.anewarray index, 3)) (hk1 : cells + 1 = k1) (hn1 : slots + N' = n1)
    (kk : ∀ (q : Nat) (H1 : Heap), wW G A H0 (ws ++ [(q, .inl (gB G, N', .inr (.inr (.inr (.inr (fun _ => none))))))]) H1 locs → W p l e R s m args below meth c H1 locs k1 n1 Q (F0 m (pc + 3) ls (.ref q :: rest))) : W p l e R s m args below meth c H locs cells slots Q (F0 m pc ls (.int n :: rest)) := by
  subst hk1
  subst hn1
  refine va_newq hx hb hown hclink (va_AO.of hover) hK hw.1 hw.2.1 hw.2.2 hA hn hN hbytes hcells hslots hdg fun q cA H1 h1 h2 h3 h4 => ?_
  have e := g_blk (G := G) hK (h1.2 5 (cA, .object "PartSketch$Block") rfl).2
  subst e
  exact kk q H1 ⟨h2, h3, h4⟩
end CROWS
/-- the order of the parts is free -/
theorem wW.swap {G : gT} {A : Nat → Prop} {H0 H : Heap} {a b c : va_W} {locs : List Loc} (h : wW G A H0 (a ++ (b ++ c)) H locs) : wW G A H0 (b ++ (a ++ c)) H locs := by
  obtain ⟨hP, hD, hS⟩ := h
  have hbc := vd_right hD
  refine ⟨vp_all fun p hp => vp_mem hP ?_, vd_app (vd_left hbc) (vd_app (vd_left hD) (vd_right hbc) fun p hp q hq => vd_cross hD hp (List.mem_append_right _ hq)) fun p hp q hq => ?_, hS⟩
  · simp only [List.mem_append] at hp ⊢
    rcases hp with h | h | h
    · exact Or.inr (Or.inl h)
    · exact Or.inl h
    · exact Or.inr (Or.inr h)
  · rcases List.mem_append.mp hq with h | h
    · exact fun e => vd_cross hD h (List.mem_append_left _ hp) e.symm
    · exact vd_cross hbc hp h
