/-! the law's start -/
theorem wW.lawd {G : gT} {A : Nat → Prop} {H0 H : Heap} {a b c d e f g : va_W} {locs : List Loc} (h : wW G A H0 (a ++ (b ++ (c ++ (d ++ (e ++ (f ++ g)))))) H locs) : wW G A H0 (f ++ (g ++ (a ++ (b ++ (c ++ (d ++ e)))))) H locs := by
  have h1 : wW G A H0 ((a ++ (b ++ (c ++ (d ++ e)))) ++ ((f ++ g) ++ [])) H locs := wW.eq (by simp only [List.append_assoc, List.append_nil]) h
  exact wW.eq (by simp only [List.append_assoc, List.append_nil]) (wW.swap h1)
/-- all is 0: the two sides stand alike -/
theorem LR_0 : LR (0, (0, (fun _ => 0), (fun _ => 0), 0, (fun _ => 0), (fun _ => 0), (fun _ => 0), (fun _ => 0)), ((fun _ => 0), (fun _ => 0)), ((fun _ => 0), (fun _ => 0), (fun _ => 0)), (0, 0, 0, 0, 0, (fun _ => 0), (fun _ => 0), (fun _ => 0), (fun _ => 0)), ((fun _ => 0), (fun _ => 0), (fun _ => 0)), ((fun _ => 0), (fun _ => 0), (fun _ => 0))) (0, (fun _ => 0), (fun _ => 0), (fun _ => 0), (fun _ => 0), (fun _ => 0), (fun _ _ => 0)) (0, 0) ((fun _ => 0), 0, (fun _ => 0), (fun _ => 0)) ((fun _ => 0), 0, (fun _ => 0), (fun _ => 0)) (0, 0, (fun _ => 0), (fun _ => 0), (fun _ => (0, 0, 0, none, 0, 0, 0, 0, 0, 0))) := by
  refine ⟨⟨rfl, Nat.zero_le _, rfl, rfl, fun _ _ => bdd_0, fun _ _ => bdd_0⟩, ⟨rfl, Nat.zero_le _, fun k hk => absurd hk (Nat.not_lt_zero _), fun k hk => absurd hk (Nat.not_lt_zero _), fun v k _ hk => absurd hk (Nat.not_lt_zero _), fun _ => Or.inl rfl⟩, ⟨⟨rfl, rfl, Nat.zero_le _, fun _ => rfl, fun h => absurd rfl h, fun k hk => absurd hk (Nat.not_lt_zero _)⟩, fun i _ => ⟨Nat.zero_le _, Nat.zero_le _, fun j hj => by cases hj⟩, fun _ => Or.inl rfl, Nat.zero_le _, Nat.zero_le _⟩, Or.inl rfl⟩
/-- the addresses of the texts -/
def sX (s : State) (sc : Nat) (k : Nat) : Nat := match (Term.string RX4 k).eval #[Value.ref sc] s none [] s with
  | some (.ref a) => a
  | _ => 0
theorem str_R {s9 : State} {sc k : Nat} {tx : String} (h1 : (Cond.stringRef RX4 k tx).before #[Value.ref sc] s9 = true) (h2 : (Cond.exactly (.string RX4 k) "java/lang/String").before #[Value.ref sc] s9 = true) : vk_R RX4 k tx (sX s9 sc k) s9 := by
  obtain ⟨a, c, cell, kk, ht, -⟩ := Cond.exactly_spec h2
  have e : sX s9 sc k = a := by unfold sX; rw [ht]
  rw [e]
  exact vk_R.of h1 ht
theorem xBad_in : ∀ w ∈ xBad, w ∈ lw_tbl := by decide +kernel

theorem wiL_law_L_start_X4 : ∀ w ∈ wsX40, w ∈ wsL_law := inlX4
theorem wiL_law_L_start_X5 : ∀ w ∈ wsX50, w ∈ wsL_law := inlX5
theorem wmL_law_L_start_0 : Cond.classLink RL 8 RX4 ∈ wsL_law := by decide +kernel
theorem wmL_law_L_start_1 : Cond.instantiable RX4 6 ∈ wsL_law := by decide +kernel
theorem wmL_law_L_start_2 : Cond.initialized RX4 ∈ wsL_law := by decide +kernel
theorem wmL_law_L_start_3 : Cond.methodLink RL 61 yX4_init ∈ wsL_law := by decide +kernel
theorem wmL_law_L_start_4 : Cond.instanceMethod yX4_init ∈ wsL_law := by decide +kernel
theorem wmL_law_L_start_5 : Cond.classLink RL 62 RX5 ∈ wsL_law := by decide +kernel
theorem wmL_law_L_start_6 : Cond.instantiable RX5 29 ∈ wsL_law := by decide +kernel
theorem wmL_law_L_start_7 : Cond.initialized RX5 ∈ wsL_law := by decide +kernel
theorem wmL_law_L_start_8 : Cond.methodLink RL 64 yX5_init ∈ wsL_law := by decide +kernel
theorem wmL_law_L_start_9 : Cond.instanceMethod yX5_init ∈ wsL_law := by decide +kernel
theorem wmL_law_L_start_10 : Cond.arrayClass .long ∈ wsL_law := by decide +kernel
theorem start_K {s9 : State} {sc : Nat} (hts0 : ∀ w ∈ lw_tbl, w.before #[Value.ref sc] s9 = true) : ∃ G, wK G s9 := by
  obtain ⟨c0, i0, k0⟩ := u_known (C := RX0) (T := TX0) (N := 4) (n := 4) hts0 inX0 (hts0 (.instantiable RX0 4) (by decide +kernel))
  obtain ⟨c1, i1, k1⟩ := u_known (C := RX1) (T := TX1) (N := 10) (n := 10) hts0 inX1 (hts0 (.instantiable RX1 10) (by decide +kernel))
  obtain ⟨c2, i2, k2⟩ := u_known (C := RX2) (T := TX2) (N := 5) (n := 5) hts0 inX2 (hts0 (.instantiable RX2 5) (by decide +kernel))
  obtain ⟨c3, i3, k3⟩ := u_known (C := RX3) (T := TX3) (N := 7) (n := 7) hts0 inX3 (hts0 (.instantiable RX3 7) (by decide +kernel))
  obtain ⟨c4, i4, k4⟩ := u_known (C := RX4) (T := TX4) (N := 6) (n := 6) hts0 inX4 (hts0 (.instantiable RX4 6) (by decide +kernel))
  obtain ⟨c5, i5, k5⟩ := u_known (C := RX5) (T := TX5) (N := 29) (n := 29) hts0 inX5 (hts0 (.instantiable RX5 29) (by decide +kernel))
  obtain ⟨ai, bi, di, ui, vi, wi⟩ := Cond.arrayClass_spec (hts0 (.arrayClass .int) (by decide +kernel))
  obtain ⟨az, bz, dz, uz, vz, wz⟩ := Cond.arrayClass_spec (hts0 (.arrayClass .boolean) (by decide +kernel))
  obtain ⟨aj, bj, dj, uj, vj, wj⟩ := Cond.arrayClass_spec (hts0 (.arrayClass .long) (by decide +kernel))
  obtain ⟨db, ab, bb, xb, yb, ub, vb, wb⟩ := Cond.arrayOver_spec (hts0 (.arrayOver (.object "PartSketch$Block")) (by decide +kernel))
  obtain ⟨dm, am, bm, xm, ym, um, vm, wm⟩ := arrayOver_specB (hts0 (.arrayOver (.array .int)) (by decide +kernel))
  refine ⟨((fun k => if k = 0 then c0 else if k = 1 then c1 else if k = 2 then c2 else if k = 3 then c3 else if k = 4 then c4 else c5, fun k => if k = 0 then i0 else if k = 1 then i1 else if k = 2 then i2 else if k = 3 then i3 else if k = 4 then i4 else i5), (ai, az, ab, am, aj)), ⟨?_, ?_⟩⟩
  · intro k q hq
    match k, hq with
    | 0, hq => cases hq; exact k0
    | 1, hq => cases hq; exact k1
    | 2, hq => cases hq; exact k2
    | 3, hq => cases hq; exact k3
    | 4, hq => cases hq; exact k4
    | 5, hq => cases hq; exact k5
    | k + 6, hq => simp [vwCl] at hq
  · intro k q hq
    match k, hq with
    | 0, hq => cases hq; exact ⟨fun n z => ⟨fun k h => (by cases h), bi, vi, di, wi⟩, ui⟩
    | 1, hq => cases hq; exact ⟨fun n z => ⟨fun k h => (by cases h), bz, vz, dz, wz⟩, uz⟩
    | 2, hq => cases hq; exact ⟨fun n z => ⟨fun k h => (by cases h), bb, ub, db, vb⟩, bb, db, ub, vb, xb, wb⟩
    | 3, hq => cases hq; exact ⟨fun n z => ⟨fun k h => (by cases h), bm, um, dm, vm⟩, wm⟩
    | 4, hq => cases hq; exact ⟨fun n z => ⟨fun k h => (by cases h), bj, vj, dj, wj⟩, uj⟩
    | k + 5, hq => simp [gTy] at hq
theorem start_W {s9 : State} {sc : Nat} (hts0 : ∀ w ∈ lw_tbl, w.before #[Value.ref sc] s9 = true) (hgv : (Jvm.Cond.and given_1 narrow_1).before #[Value.ref sc] s9 = true) : xW (sX s9 sc) s9 := by
  have hs := flat_of_before _ hgv
  refine ⟨fun w hw => va_Nw.of (xBad_tab w hw) (hts0 w ?_), fun q hq => ?_⟩
  · exact xBad_in w hw
  · simp only [xStr, List.mem_cons, List.not_mem_nil, or_false] at hq
    rcases hq with rfl | rfl | rfl | rfl | rfl | rfl | rfl | rfl | rfl | rfl | rfl | rfl | rfl
    · exact str_R (hts0 (.stringRef RX4 162 "a number is not from -100 to 100") (by decide +kernel)) (hs (.exactly (.string RX4 162) "java/lang/String") (by decide +kernel))
    · exact str_R (hts0 (.stringRef RX4 43 "there are 16 points") (by decide +kernel)) (hs (.exactly (.string RX4 43) "java/lang/String") (by decide +kernel))
    · exact str_R (hts0 (.stringRef RX4 170 "there is no such point") (by decide +kernel)) (hs (.exactly (.string RX4 170) "java/lang/String") (by decide +kernel))
    · exact str_R (hts0 (.stringRef RX4 57 "the kind is not from 0 to 2") (by decide +kernel)) (hs (.exactly (.string RX4 57) "java/lang/String") (by decide +kernel))
    · exact str_R (hts0 (.stringRef RX4 60 "one and other are the same point") (by decide +kernel)) (hs (.exactly (.string RX4 60) "java/lang/String") (by decide +kernel))
    · exact str_R (hts0 (.stringRef RX4 65 "there are 40 wishes") (by decide +kernel)) (hs (.exactly (.string RX4 65) "java/lang/String") (by decide +kernel))
    · exact str_R (hts0 (.stringRef RX4 173 "there is no such wish") (by decide +kernel)) (hs (.exactly (.string RX4 173) "java/lang/String") (by decide +kernel))
    · exact str_R (hts0 (.stringRef RX4 178 "a wish of the kind 2 has no size") (by decide +kernel)) (hs (.exactly (.string RX4 178) "java/lang/String") (by decide +kernel))
    · exact str_R (hts0 (.stringRef RX4 166 "the variant is not from 0 to 3") (by decide +kernel)) (hs (.exactly (.string RX4 166) "java/lang/String") (by decide +kernel))
    · exact str_R (hts0 (.stringRef RX4 164 "a height or depth is not from 1 to 50") (by decide +kernel)) (hs (.exactly (.string RX4 164) "java/lang/String") (by decide +kernel))
    · exact str_R (hts0 (.stringRef RX4 180 "there is no such pocket") (by decide +kernel)) (hs (.exactly (.string RX4 180) "java/lang/String") (by decide +kernel))
    · exact str_R (hts0 (.stringRef RX4 138 "there is no base") (by decide +kernel)) (hs (.exactly (.string RX4 138) "java/lang/String") (by decide +kernel))
    · exact str_R (hts0 (.stringRef RX4 143 "there are 8 pockets") (by decide +kernel)) (hs (.exactly (.string RX4 143) "java/lang/String") (by decide +kernel))
theorem start_N {s9 : State} {sc : Nat} (hgv : (Jvm.Cond.and given_1 narrow_1).before #[Value.ref sc] s9 = true) : xN s9 := by
  have hs := flat_of_before _ hgv
  exact ⟨va_Nc.of (hs (.not (.castable "java/lang/IllegalArgumentException" "java/lang/IllegalStateException")) (by decide +kernel)), va_Nc.of (hs (.not (.castable "java/lang/IllegalArgumentException" "java/lang/IndexOutOfBoundsException")) (by decide +kernel)), va_Nc.of (hs (.not (.castable "java/lang/IllegalStateException" "java/lang/IllegalArgumentException")) (by decide +kernel)), va_Nc.of (hs (.not (.castable "java/lang/IllegalStateException" "java/lang/IndexOutOfBoundsException")) (by decide +kernel)), va_Nc.of (hs (.not (.castable "java/lang/IndexOutOfBoundsException" "java/lang/IllegalArgumentException")) (by decide +kernel)), va_Nc.of (hs (.not (.castable "java/lang/IndexOutOfBoundsException" "java/lang/IllegalStateException")) (by decide +kernel))⟩
theorem start_M {s9 : State} {sc : Nat} (hts0 : ∀ w ∈ lw_tbl, w.before #[Value.ref sc] s9 = true) : xM s9 :=
  ⟨hts0 (.arrayOver (.array .int)) (by decide +kernel), va_AO.of (hts0 (.arrayOver (.object "PartSketch$Block")) (by decide +kernel)), va_Nw.of (by decide +kernel) (hts0 _ (by decide +kernel)), va_Nw.of (by decide +kernel) (hts0 _ (by decide +kernel)), va_Nw.of (by decide +kernel) (hts0 _ (by decide +kernel))⟩
theorem start_F {s9 : State} {sc : Nat} (hts0 : ∀ w ∈ lw_tbl, w.before #[Value.ref sc] s9 = true) (hgv : (Jvm.Cond.and given_1 narrow_1).before #[Value.ref sc] s9 = true) : xF (sX s9 sc) (fun q => s9.heap.size ≤ q) s9 s9.heap := by
  have hs := flat_of_before _ hgv
  have hA : ∀ a : Nat, a < s9.heap.size → ¬ (fun q => s9.heap.size ≤ q) a := fun a h => Nat.not_le.mpr h
  exact ⟨vx_Zqof (hts0 (.laysStatic Bundle.tN "UNASSIGNED_STACK" Bundle.steD) (by decide +kernel)) (hts0 (.initialized Bundle.tN) (by decide +kernel)) (hs (.isRef (.static Bundle.tN "UNASSIGNED_STACK" Bundle.steD)) (by decide +kernel)) hA, vx_Zqof (hts0 (.laysStatic Bundle.tN "SUPPRESSED_SENTINEL" Bundle.listD) (by decide +kernel)) (hts0 (.initialized Bundle.tN) (by decide +kernel)) (hs (.isRef (.static Bundle.tN "SUPPRESSED_SENTINEL" Bundle.listD)) (by decide +kernel)) hA, start_W hts0 hgv⟩
set_option maxHeartbeats 4000000 in
set_option maxRecDepth 100000 in
theorem law_start {p9 : Program} {e9 : Env} {s9 : State} {m9 : MethodId} {be9 : List Frame} {mt9 : Method} {c9 : Code} (l : Launch) (hflags : l.flags = flags0) {sc L : Nat} {sx : Nat → Int32} (hL : L ≤ 2560) (C0 : lw_At p9 s9 m9 mt9 c9 sc L sx) : W p9 l e9 room_1 s9 m9 #[Value.ref sc] be9 mt9 c9 s9.heap [] 0 0 (lw_Z be9 #[Value.ref sc] s9) (entryFrame m9 ([Value.ref sc] : List Value).toArray 7) := by
  obtain ⟨hx, hb, hr, hml, hown, hts0, hX, hbl, hlocks, hgv⟩ := id C0
  have hts : ∀ w ∈ wsL_law, w.before #[Value.ref sc] s9 = true := fun w hw => hts0 w (wsL_law_in w hw)
  have hA : ∀ q : Nat, s9.heap.size ≤ q → (fun q : Nat => s9.heap.size ≤ q) q := fun _ h => h
  have hst : l.stackTraces = false := by unfold Launch.stackTraces; rw [hflags]; decide +kernel
  obtain ⟨G, hK⟩ := start_K hts0
  have hM := start_M hts0
  have C9 : lC p9 l s9 m9 mt9 c9 sc L sx G (sX s9 sc) := ⟨C0, hL, hst, hK, start_F hts0 hgv, start_N hgv⟩
  have hl := lv_entry ([.ref sc]) (n := 7) (Nat.le_of_ble_eq_true rfl)
  rw [lg_entry_eq]
  generalize (lg_sl ([.ref sc]) ++ List.replicate (7 - (lg_sl ([.ref sc])).length) Slot.unset).toArray = ls at hl ⊢
  have hl : lv_has ls 7 [(0, .ref sc)] := hl
  have hw : wW G (fun q => s9.heap.size ≤ q) s9.heap ([] : va_W) s9.heap [] := ⟨fun k q h => by simp at h, ⟨fun i j p q h => by simp at h, fun k q h => by simp at h⟩, va_S.rf⟩
  generalize hlc : ([] : List Loc) = locs at hw ⊢
  refine r_newo (ci := 4) (fs := [.null, .null, .null, .null, .int 0, .int 0]) (C := RX4) (T := TX4) (N := 6) hx hb hts wiL_law_L_start_X4 tyX4 tyX4_ok hown wmL_law_L_start_0 wmL_law_L_start_1 wmL_law_L_start_2 hK hw hA rfl (fun j hj => by rcases (show j = 0 ∨ j = 1 ∨ j = 2 ∨ j = 3 ∨ j = 4 ∨ j = 5 by omega) with h9 | h9 | h9 | h9 | h9 | h9 <;> subst h9 <;> rfl) (Nat.le_of_ble_eq_true rfl) (Nat.le_of_ble_eq_true rfl) dL_law_0 rfl rfl (fun q0 H hw => ?_)
  have hw : wW G (fun q => s9.heap.size ≤ q) s9.heap ([(q0, .inr (4, [.null, .null, .null, .null, .int 0, .int 0]))]) H locs := hw
  refine lv_dup hx hb dL_law_3 rfl ?_
  have hwc : wW G (fun q => s9.heap.size ≤ q) s9.heap (([] : va_W) ++ (([(q0, .inr (4, [.null, .null, .null, .null, .int 0, .int 0]))]) ++ ([] : va_W))) H locs := hw
  refine r_callc (u := ([] : va_W)) (w := [(q0, .inr (4, [.null, .null, .null, .null, .int 0, .int 0]))]) (v := ([] : va_W)) (va_runI (As := []) (rest := [.ref q0]) ⟨hx, hb, hml, hown, hts⟩ (c_skinit l G q0 H.size) (cwI 0 hts gL_law_X4_init rfl rfl rfl (hts _ wmL_law_L_start_2) (hts _ wmL_law_L_start_3) (hts _ wmL_law_L_start_4) rfl (by decide +kernel) ⟨Nat.le_of_ble_eq_true rfl, Nat.le_of_ble_eq_true rfl⟩) (n_preS hK hM hwc) rfl rfl hl.1 rfl (lv_room (Nat.le_of_ble_eq_true rfl)) dL_law_4 ⟨Nat.le_of_ble_eq_true rfl, Nat.le_of_ble_eq_true rfl⟩) hwc hA rfl rfl (fun z4 H locs hw => ?_)
  have hw : wW G (fun q => s9.heap.size ≤ q) s9.heap (wRw G z4.2.2.1 (0, (fun _ => 0), (fun _ => 0), (fun _ => 0), (fun _ => 0), (fun _ => 0), (fun _ _ => 0)) ++ (wOb G (q0, z4.1.1, z4.2.1.1, z4.2.2.1.1, z4.2.2.2.1) (0, 0) ++ (wAx G z4.1 ((fun _ => 0), 0, (fun _ => 0), (fun _ => 0)) ++ (wAx G z4.2.1 ((fun _ => 0), 0, (fun _ => 0), (fun _ => 0)) ++ (wBd G z4.2.2.2 (0, 0, (fun _ => 0), (fun _ => 0), (fun _ => (0, 0, 0, none, 0, 0, 0, 0, 0, 0)))))))) H locs := hw
  refine lv_astore_n (lv' := [(1, .ref q0), (0, .ref sc)]) hx hb dL_law_7 rfl hl (by decide) rfl (fun ls hl => ?_)
  refine r_newo (ci := 5) (fs := [.int 0, .int 0, .null, .null, .int 0, .null, .null, .null, .null, .null, .null, .null, .null, .null, .int 0, .int 0, .int 0, .int 0, .int 0, .null, .null, .null, .null, .null, .null, .null, .null, .null, .null]) (C := RX5) (T := TX5) (N := 29) hx hb hts wiL_law_L_start_X5 tyX5 tyX5_ok hown wmL_law_L_start_5 wmL_law_L_start_6 wmL_law_L_start_7 hK hw hA rfl (fun j hj => by rcases (show j = 0 ∨ j = 1 ∨ j = 2 ∨ j = 3 ∨ j = 4 ∨ j = 5 ∨ j = 6 ∨ j = 7 ∨ j = 8 ∨ j = 9 ∨ j = 10 ∨ j = 11 ∨ j = 12 ∨ j = 13 ∨ j = 14 ∨ j = 15 ∨ j = 16 ∨ j = 17 ∨ j = 18 ∨ j = 19 ∨ j = 20 ∨ j = 21 ∨ j = 22 ∨ j = 23 ∨ j = 24 ∨ j = 25 ∨ j = 26 ∨ j = 27 ∨ j = 28 by omega) with h9 | h9 | h9 | h9 | h9 | h9 | h9 | h9 | h9 | h9 | h9 | h9 | h9 | h9 | h9 | h9 | h9 | h9 | h9 | h9 | h9 | h9 | h9 | h9 | h9 | h9 | h9 | h9 | h9 <;> subst h9 <;> rfl) (Nat.le_of_ble_eq_true rfl) (Nat.le_of_ble_eq_true rfl) dL_law_8 rfl rfl (fun q8 H hw => ?_)
  have hw : wW G (fun q => s9.heap.size ≤ q) s9.heap (wRw G z4.2.2.1 (0, (fun _ => 0), (fun _ => 0), (fun _ => 0), (fun _ => 0), (fun _ => 0), (fun _ _ => 0)) ++ (wOb G (q0, z4.1.1, z4.2.1.1, z4.2.2.1.1, z4.2.2.2.1) (0, 0) ++ (wAx G z4.1 ((fun _ => 0), 0, (fun _ => 0), (fun _ => 0)) ++ (wAx G z4.2.1 ((fun _ => 0), 0, (fun _ => 0), (fun _ => 0)) ++ (wBd G z4.2.2.2 (0, 0, (fun _ => 0), (fun _ => 0), (fun _ => (0, 0, 0, none, 0, 0, 0, 0, 0, 0))) ++ ([(q8, .inr (5, [.int 0, .int 0, .null, .null, .int 0, .null, .null, .null, .null, .null, .null, .null, .null, .null, .int 0, .int 0, .int 0, .int 0, .int 0, .null, .null, .null, .null, .null, .null, .null, .null, .null, .null]))])))))) H locs := hw
  refine lv_dup hx hb dL_law_11 rfl ?_
  have hwc : wW G (fun q => s9.heap.size ≤ q) s9.heap ((wRw G z4.2.2.1 (0, (fun _ => 0), (fun _ => 0), (fun _ => 0), (fun _ => 0), (fun _ => 0), (fun _ _ => 0)) ++ (wOb G (q0, z4.1.1, z4.2.1.1, z4.2.2.1.1, z4.2.2.2.1) (0, 0) ++ (wAx G z4.1 ((fun _ => 0), 0, (fun _ => 0), (fun _ => 0)) ++ (wAx G z4.2.1 ((fun _ => 0), 0, (fun _ => 0), (fun _ => 0)) ++ (wBd G z4.2.2.2 (0, 0, (fun _ => 0), (fun _ => 0), (fun _ => (0, 0, 0, none, 0, 0, 0, 0, 0, 0)))))))) ++ (([(q8, .inr (5, [.int 0, .int 0, .null, .null, .int 0, .null, .null, .null, .null, .null, .null, .null, .null, .null, .int 0, .int 0, .int 0, .int 0, .int 0, .null, .null, .null, .null, .null, .null, .null, .null, .null, .null]))]) ++ ([] : va_W))) H locs := hw
  refine r_callc (u := wRw G z4.2.2.1 (0, (fun _ => 0), (fun _ => 0), (fun _ => 0), (fun _ => 0), (fun _ => 0), (fun _ _ => 0)) ++ (wOb G (q0, z4.1.1, z4.2.1.1, z4.2.2.1.1, z4.2.2.2.1) (0, 0) ++ (wAx G z4.1 ((fun _ => 0), 0, (fun _ => 0), (fun _ => 0)) ++ (wAx G z4.2.1 ((fun _ => 0), 0, (fun _ => 0), (fun _ => 0)) ++ (wBd G z4.2.2.2 (0, 0, (fun _ => 0), (fun _ => 0), (fun _ => (0, 0, 0, none, 0, 0, 0, 0, 0, 0)))))))) (w := [(q8, .inr (5, [.int 0, .int 0, .null, .null, .int 0, .null, .null, .null, .null, .null, .null, .null, .null, .null, .int 0, .int 0, .int 0, .int 0, .int 0, .null, .null, .null, .null, .null, .null, .null, .null, .null, .null]))]) (v := ([] : va_W)) (va_runI (As := []) (rest := [.ref q8]) ⟨hx, hb, hml, hown, hts⟩ (c_mdinit l G q8 H.size) (cwI 0 hts gL_law_X5_init rfl rfl rfl (hts _ wmL_law_L_start_7) (hts _ wmL_law_L_start_8) (hts _ wmL_law_L_start_9) rfl (by decide +kernel) ⟨Nat.le_of_ble_eq_true rfl, Nat.le_of_ble_eq_true rfl⟩) (r_preS hK hwc) rfl rfl hl.1 rfl (lv_room (Nat.le_of_ble_eq_true rfl)) dL_law_12 ⟨Nat.le_of_ble_eq_true rfl, Nat.le_of_ble_eq_true rfl⟩) hwc hA rfl rfl (fun z12 H locs hw => ?_)
  have hw : wW G (fun q => s9.heap.size ≤ q) s9.heap (wRw G z4.2.2.1 (0, (fun _ => 0), (fun _ => 0), (fun _ => 0), (fun _ => 0), (fun _ => 0), (fun _ _ => 0)) ++ (wOb G (q0, z4.1.1, z4.2.1.1, z4.2.2.1.1, z4.2.2.2.1) (0, 0) ++ (wAx G z4.1 ((fun _ => 0), 0, (fun _ => 0), (fun _ => 0)) ++ (wAx G z4.2.1 ((fun _ => 0), 0, (fun _ => 0), (fun _ => 0)) ++ (wBd G z4.2.2.2 (0, 0, (fun _ => 0), (fun _ => 0), (fun _ => (0, 0, 0, none, 0, 0, 0, 0, 0, 0))) ++ (wMd G (adL (q8 :: z12)) (0, (0, (fun _ => 0), (fun _ => 0), 0, (fun _ => 0), (fun _ => 0), (fun _ => 0), (fun _ => 0)), ((fun _ => 0), (fun _ => 0)), ((fun _ => 0), (fun _ => 0), (fun _ => 0)), (0, 0, 0, 0, 0, (fun _ => 0), (fun _ => 0), (fun _ => 0), (fun _ => 0)), ((fun _ => 0), (fun _ => 0), (fun _ => 0)), ((fun _ => 0), (fun _ => 0), (fun _ => 0))))))))) H locs := hw
  refine lv_astore_n (lv' := [(2, .ref q8), (1, .ref q0), (0, .ref sc)]) hx hb dL_law_15 rfl hl (by decide) rfl (fun ls hl => ?_)
  refine lv_iconst (v := 1) hx hb dL_law_16 (by decide) ?_
  refine r_newa (atype := .long) (ty := .long) (N' := 1) (a0 := (1, .inr (.inl (fun _ => 0)))) (gc := gJ G) hx hb (hts _ wmL_law_L_start_10) rfl hK hw hA (fun _ => rfl) (by decide) (by decide) (Nat.le_of_ble_eq_true rfl) (Nat.le_of_ble_eq_true rfl) (Nat.le_of_ble_eq_true rfl) dL_law_17 (fun _ h9 => g_long hK h9) rfl rfl (fun q17 H hw => ?_)
  have hw : wW G (fun q => s9.heap.size ≤ q) s9.heap (wRw G z4.2.2.1 (0, (fun _ => 0), (fun _ => 0), (fun _ => 0), (fun _ => 0), (fun _ => 0), (fun _ _ => 0)) ++ (wOb G (q0, z4.1.1, z4.2.1.1, z4.2.2.1.1, z4.2.2.2.1) (0, 0) ++ (wAx G z4.1 ((fun _ => 0), 0, (fun _ => 0), (fun _ => 0)) ++ (wAx G z4.2.1 ((fun _ => 0), 0, (fun _ => 0), (fun _ => 0)) ++ (wBd G z4.2.2.2 (0, 0, (fun _ => 0), (fun _ => 0), (fun _ => (0, 0, 0, none, 0, 0, 0, 0, 0, 0))) ++ (wMd G (adL (q8 :: z12)) (0, (0, (fun _ => 0), (fun _ => 0), 0, (fun _ => 0), (fun _ => 0), (fun _ => 0), (fun _ => 0)), ((fun _ => 0), (fun _ => 0)), ((fun _ => 0), (fun _ => 0), (fun _ => 0)), (0, 0, 0, 0, 0, (fun _ => 0), (fun _ => 0), (fun _ => 0), (fun _ => 0)), ((fun _ => 0), (fun _ => 0), (fun _ => 0)), ((fun _ => 0), (fun _ => 0), (fun _ => 0))) ++ (wLg G q17 (fun _ => 0)))))))) H locs := hw
  refine lv_astore_n (lv' := [(3, .ref q17), (2, .ref q8), (1, .ref q0), (0, .ref sc)]) hx hb dL_law_19 rfl hl (by decide) rfl (fun ls hl => ?_)
  refine lv_iconst (v := 0) hx hb dL_law_20 (by decide) ?_
  refine lv_istore (lv' := [(4, .int 0), (3, .ref q17), (2, .ref q8), (1, .ref q0), (0, .ref sc)]) hx hb dL_law_21 hl (by decide) rfl (fun ls hl => ?_)
  have hw := wW.lawd hw
  exact law_loop C9 (adL (q8 :: z12)) q17 q0 z4.2.2.1 z4.1 z4.2.1 z4.2.2.2 512 0 56 1410 _ _ _ _ _ _ _ _ _ _ (by omega) (by omega) (by omega) (by omega) LR_0 hw (lv_sub hl [4, 3, 2, 1, 0] rfl)
/-- the law comes to its end with true -/
theorem whole_start {p : Program} {e : Env} {s : State} {m : MethodId} {below : List Frame} {meth : Method} {c : Code} (l : Launch) (hflags : l.flags = flags0) {b L : Nat} {xs : Nat → Int32} (hL : L ≤ 2560) (C0 : lw_At p s m meth c b L xs) : W p l e room_1 s m #[Value.ref b] below meth c s.heap [] 0 0 (lw_Z below #[Value.ref b] s) (entryFrame m ([Value.ref b] : List Value).toArray 7) := law_start l hflags hL C0
