/-! a block put into the row of blocks -/
section C4ROWS
variable {p : Program} {l : Launch} {e : Env} {R : Room} {s : State} {m : MethodId} {args : Array Value} {below : List Frame} {meth : Method} {c : Code} {H : Heap} {locs : List Loc} {cells slots : Nat} {Q : State → Prop}
variable {cc : ByteArray} {pc : Nat} {ls : Array Slot} {rest : List Value} {A : Nat → Prop} {H0 : Heap} {ws : va_W} {G : gT}
theorem r_aastB (hx : p.tables.exec = Jvm.exec) (hb : c.code = cc) (hK : wK G s) (hw : wW G A H0 ws H locs) (q0 qk : Nat) {a v n : Nat} {f : Nat → Option Nat} {vs : List Value} (ha : ws[q0]? = some (a, .inl (gB G, n, .inr (.inr (.inr (.inr f)))))) (hv : ws[qk]? = some (v, .inr (1, vs))) {x : Int32} (i : Nat) (hi : x = nI i) (hin : i < n) (hN : n < 2 ^ 31) (hdg : decode cc pc = .ok (.aastore, 1)) {ws' : va_W} (hs : ws.set q0 (a, .inl (gB G, n, .inr (.inr (.inr (.inr (va_up f i (some v))))))) = ws')
    (kk : ∀ (H1 : Heap) (locs1 : List Loc), wW G A H0 ws' H1 locs1 → W p l e R s m args below meth c H1 locs1 cells slots Q (F0 m (pc + 1) ls rest)) : W p l e R s m args below meth c H locs cells slots Q (F0 m pc ls (.ref v :: .int x :: .ref a :: rest)) := by
  subst hi
  refine va_astq hx hb hK hw.1 hw.2.1 hw.2.2 q0 2 qk 1 ha rfl hv rfl (vp_in_nI hin hN) hdg fun H1 locs1 h1 h2 h3 => ?_
  rw [nI_clamp (Nat.lt_trans hin hN)] at h1 h2
  exact kk H1 locs1 (wW.eq hs ⟨h1, h2, h3⟩)
end C4ROWS
/-- a Body in the making: k blocks stand -/
def wBh (G : gT) (a : Nat) (b x y k : Nat) (ad : Nat → Nat) : va_W := [(a, .inr (2, [.int 0, .int 0, .ref b, .ref x, .ref y])), (b, .inl (gB G, 9, .inr (.inr (.inr (.inr (fun i => if i < k then some (ad i) else none)))))), (x, .inl (gI G, 16, .inl (fun _ => 0))), (y, .inl (gI G, 16, .inl (fun _ => 0)))] ++ (List.range k).map (fun i => (ad i, cBk ad (0, 0, 0, none, 0, 0, 0, 0, 0, 0)))
theorem wBh_step {G : gT} {a b x y k v : Nat} {ad : Nat → Nat} : List.set (wBh G a b x y k ad ++ ([(v, .inr (1, [.int 0, .int 0, .int 0, .null, .int 0, .int 0, .int 0, .int 0, .int 0, .int 0]))] : va_W)) 1 (b, .inl (gB G, 9, .inr (.inr (.inr (.inr (va_up (fun i => if i < k then some (ad i) else none) k (some v))))))) = wBh G a b x y (k + 1) (fun i => if i = k then v else ad i) := by
  have e1 : va_up (fun i => if i < k then some (ad i) else none) k (some v) = fun i => if i < k + 1 then some (if i = k then v else ad i) else none := by
    funext i
    unfold va_up
    by_cases h : i = k
    · subst h; simp
    · by_cases h2 : i < k
      · simp [h, h2, Nat.lt_succ_of_lt h2]
      · simp [h, h2, show ¬ i < k + 1 by omega]
  rw [e1]
  unfold wBh
  rw [List.range_succ, List.map_append]
  have e2 : (List.range k).map (fun i => (ad i, cBk ad (0, 0, 0, none, 0, 0, 0, 0, 0, 0))) = (List.range k).map (fun i => ((if i = k then v else ad i), cBk (fun i => if i = k then v else ad i) (0, 0, 0, none, 0, 0, 0, 0, 0, 0))) := by
    apply List.map_congr_left
    intro i hi
    have : i ≠ k := Nat.ne_of_lt (List.mem_range.mp hi)
    rw [if_neg this]
    rfl
  rw [e2]
  simp [cBk]
  exact ⟨by decide, rfl⟩
theorem wBh_len {G : gT} {a b x y k : Nat} {ad : Nat → Nat} : (wBh G a b x y k ad).length = 4 + k := by
  unfold wBh
  simp
  omega
theorem wBh_last {G : gT} {a b x y k : Nat} {ad : Nat → Nat} {z : Nat × va_E} : (wBh G a b x y k ad ++ [z])[4 + k]? = some z := by
  rw [List.getElem?_append_right (by rw [wBh_len]; exact Nat.le_refl _), wBh_len, Nat.sub_self]
  rfl
theorem vx_nine {c : ClassId} {r : Nat → Nat} : vp_cell c (9, .inr (.inr (.inr (.inr (fun i => if i < 9 then some (r i) else none))))) = vp_cell c (9, .inr (.inr (.inr (.inr (fun i => some (r i)))))) := by
  rw [vp_cell_q, vp_cell_q]
  rfl
theorem wBh_done {G : gT} {A : Nat → Prop} {H0 H : Heap} {a b x y : Nat} {ad : Nat → Nat} {locs : List Loc} (h : wW G A H0 (wBh G a b x y 9 ad) H locs) : wW G A H0 (wBd G (a, b, x, y, ad) (0, 0, fun _ => 0, fun _ => 0, fun _ => (0, 0, 0, none, 0, 0, 0, 0, 0, 0))) H locs := by
  refine ⟨vp_all fun p hp => ?_, vd_fst (a := wBh G a b x y 9 ad) (by simp [wBh, wBd]) h.2.1, h.2.2⟩
  rcases List.mem_append.mp hp with h9 | h9
  · rcases List.mem_cons.mp h9 with rfl | h9
    · exact vp_mem h.1 (List.mem_append_left _ List.mem_cons_self)
    · rcases List.mem_cons.mp h9 with rfl | h9
      · have h8 := vp_mem h.1 (p := (b, .inl (gB G, 9, .inr (.inr (.inr (.inr (fun i => if i < 9 then some (ad i) else none))))))) (List.mem_append_left _ (List.mem_cons_of_mem _ List.mem_cons_self))
        show H[b]? = some (vp_cell _ _)
        rw [← vx_nine]
        exact h8
      · exact vp_mem h.1 (List.mem_append_left _ (List.mem_cons_of_mem _ (List.mem_cons_of_mem _ h9)))
  · exact vp_mem h.1 (List.mem_append_right _ h9)
