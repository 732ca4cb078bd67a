/-! the table of variants: four rows at once -/
theorem vx_four {c : ClassId} {r : Nat → Nat} : vp_cell c (4, .inr (.inr (.inr (.inr (fun i => if i < 4 then some (r i) else none))))) = vp_cell c (4, .inr (.inr (.inr (.inr (fun i => some (r i)))))) := by
  rw [vp_cell_q, vp_cell_q]
  rfl
theorem vd_fst {A : Nat → Prop} {a b : va_W} (e : a.map (fun x => x.1) = b.map (fun x => x.1)) (h : va_D A a) : va_D A b := by
  have tr : ∀ (i : Nat) (p : Nat × va_E), b[i]? = some p → ∃ p', a[i]? = some p' ∧ p'.1 = p.1 := fun i p hi => by
    have g : (b.map (fun x => x.1))[i]? = some p.1 := by rw [List.getElem?_map, hi]; rfl
    rw [← e, List.getElem?_map] at g
    obtain ⟨p', h1, h2⟩ := Option.map_eq_some_iff.mp g
    exact ⟨p', h1, h2⟩
  refine ⟨fun i j p q hi hj eq => ?_, fun k q hk => ?_⟩
  · obtain ⟨p', h1, h2⟩ := tr i p hi
    obtain ⟨q', h3, h4⟩ := tr j q hj
    exact h.1 i j p' q' h1 h3 (by rw [h2, h4]; exact eq)
  · obtain ⟨q', h3, h4⟩ := tr k q hk
    rw [← h4]
    exact h.2 k q' h3
section C2ROWS
variable {p : Program} {l : Launch} {e : Env} {R : Room} {s : State} {m : MethodId} {args : Array Value} {below : List Frame} {meth : Method} {c : Code} {H : Heap} {locs : List Loc} {cells slots : Nat} {Q : State → Prop}
variable {cc : ByteArray} {pc : Nat} {ls : Array Slot} {rest : List Value} {A : Nat → Prop} {H0 : Heap} {ws : va_W} {G : gT}
theorem g_arr {cA : ClassId} (hK : wK G s) (h : va_RA s cA (.array .int)) : cA = gM G := Option.some.inj (Eq.trans (Eq.symm (show s.vm.findClass ("[" ++ (FieldType.array .int).toString) = some cA from h)) (show s.vm.findClass ("[" ++ (FieldType.array .int).toString) = some (gM G) from (hK.2 3 _ rfl).2))
theorem r_mna (hx : p.tables.exec = Jvm.exec) (hb : c.code = cc) {own : String} {index k1 n1 : Nat} (hown : s.vm.findClass own = some m.cls) (hclink : (Cond.classLink own index ("[" ++ (FieldType.array .int).toString)).before args s = true) (hover : (Cond.arrayOver (.array .int)).before args s = true) (harr : (Cond.arrayClass .int).before args s = true) (hK : wK G s) (hw : wW G A H0 ws H locs) (hA : ∀ q, H0.size ≤ q → A q)
    (hcells : cells + 5 ≤ R.cells) (hslots : slots + 164 ≤ R.slots) (hdg : decode cc pc = .ok (.multianewarray index 2, 4)) (hk1 : cells + 5 = k1) (hn1 : slots + 164 = n1)
    (kk : ∀ (q : Nat) (r : Nat → Nat) (H1 : Heap), wW G A H0 (ws ++ ([(q, .inl (gM G, 4, .inr (.inr (.inr (.inr (fun i => some (r i)))))))] ++ (List.range 4).map (fun i => (r i, .inl (gI G, 40, .inl (fun _ => 0)))))) H1 locs → W p l e R s m args below meth c H1 locs k1 n1 Q (F0 m (pc + 4) ls (.ref q :: rest))) : W p l e R s m args below meth c H locs cells slots Q (F0 m pc ls (.int 40 :: .int 4 :: rest)) := by
  subst hk1
  subst hn1
  have e0 : ws ++ va_pl [] (fun _ => (.inl (gI G, 40, .inl (fun _ => 0)) : va_E)) = ws := List.append_nil _
  refine va_mna (X := ws) (L := []) (f := fun _ => .inl (gI G, 40, .inl (fun _ => 0))) (ty := .int) (cy := gI G) (z := (40, .inl (fun _ => 0))) (N' := 4) (K' := 40) hx hb hown hclink hover harr (va_nm_int (hK.2 0 _ rfl).2) hK (by rw [e0]; exact hw.1) (by rw [e0]; exact hw.2.1) hw.2.2 hA (by decide) (by decide) (by decide) (by decide) (Nat.le_of_ble_eq_true rfl) (Nat.le_of_ble_eq_true rfl) (Nat.le_of_ble_eq_true rfl) rfl rfl (by omega) (by omega) (fun c => ?_) hdg fun q r cA H1 hr1 hr2 h1 h2 h3 h4 => ?_
  · show ({ cls := c, slots := Array.replicate 40 (.int 0), vm := .none } : Cell) = _
    rw [arrV_new]
    rfl
  · have e1 := g_arr (G := G) hK (h1.2 5 (cA, .array .int) rfl).2
    subst e1
    have e2 : va_pl ([] ++ (List.range 4).map r) (vr_up (fun _ => (.inl (gI G, 40, .inl (fun _ => 0)) : va_E)) ((List.range 4).map r) (.inl (gI G, 40, .inl (fun _ => 0)))) = (List.range 4).map (fun i => (r i, (.inl (gI G, 40, .inl (fun _ => 0)) : va_E))) := by
      unfold va_pl vr_up
      simp
    rw [e2, List.append_assoc] at h2 h3
    refine kk q r H1 ⟨vp_all fun x hx => ?_, vd_fst (by simp only [List.map_append, List.map_cons, List.map_nil]) h3, h4⟩
    · rcases List.mem_append.mp hx with h | h
      · exact vp_mem h2 (List.mem_append_left _ h)
      · rcases List.mem_append.mp h with h | h
        · rw [List.mem_singleton.mp h]
          have h9 := vp_mem h2 (p := (q, .inl (gM G, 4, .inr (.inr (.inr (.inr (fun i => if i < 4 then some (r i) else none))))))) (List.mem_append_right _ (List.mem_append_left _ (List.mem_singleton.mpr rfl)))
          show H1[q]? = some (vp_cell _ _)
          rw [← vx_four]
          exact h9
        · exact vp_mem h2 (List.mem_append_right _ (List.mem_append_right _ h))
end C2ROWS
