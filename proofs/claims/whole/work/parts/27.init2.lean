theorem wiX3_init_rwinit_X3 : ∀ w ∈ wsX30, w ∈ wsX3_init := by decide +kernel
theorem wmX3_init_rwinit_0 : Cond.methodLink RX3 3 objectInit ∈ wsX3_init := by decide +kernel
theorem wmX3_init_rwinit_1 : Cond.instanceMethod objectInit ∈ wsX3_init := by decide +kernel
theorem wmX3_init_rwinit_2 : Cond.code objectInit ⟨#[0xb1]⟩ 1 none ∈ wsX3_init := by decide +kernel
theorem wmX3_init_rwinit_3 : Cond.arrayClass .int ∈ wsX3_init := by decide +kernel
theorem wmX3_init_rwinit_4 : Cond.fieldLink RX3 9 "PartSketch$WishRows" "kind" "[I" ∈ wsX3_init := by decide +kernel
theorem wmX3_init_rwinit_5 : Cond.fieldLink RX3 15 "PartSketch$WishRows" "one" "[I" ∈ wsX3_init := by decide +kernel
theorem wmX3_init_rwinit_6 : Cond.fieldLink RX3 18 "PartSketch$WishRows" "other" "[I" ∈ wsX3_init := by decide +kernel
theorem wmX3_init_rwinit_7 : Cond.fieldLink RX3 21 "PartSketch$WishRows" "size" "[I" ∈ wsX3_init := by decide +kernel
theorem wmX3_init_rwinit_8 : Cond.fieldLink RX3 24 "PartSketch$WishRows" "state" "[I" ∈ wsX3_init := by decide +kernel
theorem wmX3_init_rwinit_9 : Cond.classLink RX3 27 "[[I" ∈ wsX3_init := by decide +kernel
theorem wmX3_init_rwinit_10 : Cond.fieldLink RX3 29 "PartSketch$WishRows" "told" "[[I" ∈ wsX3_init := by decide +kernel
set_option maxHeartbeats 4000000 in
set_option maxRecDepth 100000 in
/-- new WishRows -/
theorem c_rwinit (l : Launch) (G : gT) (a : Nat) (sz : Nat) : NC (S := Nat × Nat × Nat × Nat × Nat × Nat × (Nat → Nat)) l yX3_init wsX3_init ({ frames := 1, cells := 10, slots := 364, locals := 12 }) G [.ref a] ([(a, .inr (3, [.int 0, .null, .null, .null, .null, .null, .null]))]) (fun z9 => wRw G (a, z9) (0, (fun _ => 0), (fun _ => 0), (fun _ => 0), (fun _ => 0), (fun _ => 0), (fun _ _ => 0))) sz 10 364 := by
  refine n_of (Qc := fun A9 => (va_Qv (fun (_ : Nat × Nat × Nat × Nat × Nat × Nat × (Nat → Nat)) => True) (fun z9 t9 => wPost G A9 (wRw G (a, z9) (0, (fun _ => 0), (fun _ => 0), (fun _ => 0), (fun _ => 0), (fun _ => 0), (fun _ _ => 0))) t9) A9)) (cc := cX3_init) (maxL := 1) (ret := none) (by decide) rfl (Nat.le_of_ble_eq_true rfl) ?_
  intro p9 e9 s9 m9 A9 be9 mt9 c9 H locs ls hx hb hr hts hown hlocks hin hml hK hA hM hw hl
  have hl : lv_has ls 1 [(0, .ref a)] := hl
  refine lv_aload_n hx hb dX3_init_0 rfl (lv_at hl 0 rfl) ?_
  refine W.objInit hx hb hown (hts _ wmX3_init_rwinit_0) (hts _ wmX3_init_rwinit_1) (hts _ wmX3_init_rwinit_2) rfl (by rw [hml]; exact hl.1) rfl dX3_init_1 (Nat.le_of_ble_eq_true rfl) (Nat.le_of_ble_eq_true rfl) ?_
  refine W.eq (g2 := F0 m9 4 ls []) rfl ?_
  refine lv_aload_n hx hb dX3_init_4 rfl (lv_at hl 0 rfl) ?_
  refine lv_bipush (v := 40) hx hb dX3_init_5 (by decide) ?_
  refine r_newa (atype := .int) (ty := .int) (N' := 40) (a0 := (40, .inl (fun _ => 0))) (gc := gI G) hx hb (hts _ wmX3_init_rwinit_3) rfl hK hw hA (fun _ => rfl) (by decide) (by decide) (Nat.le_of_ble_eq_true rfl) (Nat.le_of_ble_eq_true rfl) (Nat.le_of_ble_eq_true rfl) dX3_init_7 (fun _ h9 => g_int hK h9) rfl rfl (fun q7 H hw => ?_)
  have hw : wW G A9 s9.heap ([(a, .inr (3, [.int 0, .null, .null, .null, .null, .null, .null])), (q7, .inl (gI G, 40, .inl (fun _ => 0)))]) H locs := hw
  refine r_putF (ci := 3) (v := .ref q7) (ty := (.array .int)) (C := RX3) (T := TX3) (N := 7) hx hb hts wiX3_init_rwinit_X3 tyX3 tyX3_ok nmX3 hown hK hw 0 rfl rfl 1 (by decide) wmX3_init_rwinit_4 (fun _ h9 => h9) rfl hin rfl (by decide +kernel) rfl rfl (Nat.le_of_ble_eq_true rfl) dX3_init_9 (ws' := [(a, .inr (3, [.int 0, .ref q7, .null, .null, .null, .null, .null])), (q7, .inl (gI G, 40, .inl (fun _ => 0)))]) rfl (fun H locs hw => ?_)
  refine lv_aload_n hx hb dX3_init_12 rfl (lv_at hl 0 rfl) ?_
  refine lv_bipush (v := 40) hx hb dX3_init_13 (by decide) ?_
  refine r_newa (atype := .int) (ty := .int) (N' := 40) (a0 := (40, .inl (fun _ => 0))) (gc := gI G) hx hb (hts _ wmX3_init_rwinit_3) rfl hK hw hA (fun _ => rfl) (by decide) (by decide) (Nat.le_of_ble_eq_true rfl) (Nat.le_of_ble_eq_true rfl) (Nat.le_of_ble_eq_true rfl) dX3_init_15 (fun _ h9 => g_int hK h9) rfl rfl (fun q15 H hw => ?_)
  have hw : wW G A9 s9.heap ([(a, .inr (3, [.int 0, .ref q7, .null, .null, .null, .null, .null])), (q7, .inl (gI G, 40, .inl (fun _ => 0))), (q15, .inl (gI G, 40, .inl (fun _ => 0)))]) H locs := hw
  refine r_putF (ci := 3) (v := .ref q15) (ty := (.array .int)) (C := RX3) (T := TX3) (N := 7) hx hb hts wiX3_init_rwinit_X3 tyX3 tyX3_ok nmX3 hown hK hw 0 rfl rfl 2 (by decide) wmX3_init_rwinit_5 (fun _ h9 => h9) rfl hin rfl (by decide +kernel) rfl rfl (Nat.le_of_ble_eq_true rfl) dX3_init_17 (ws' := [(a, .inr (3, [.int 0, .ref q7, .ref q15, .null, .null, .null, .null])), (q7, .inl (gI G, 40, .inl (fun _ => 0))), (q15, .inl (gI G, 40, .inl (fun _ => 0)))]) rfl (fun H locs hw => ?_)
  refine lv_aload_n hx hb dX3_init_20 rfl (lv_at hl 0 rfl) ?_
  refine lv_bipush (v := 40) hx hb dX3_init_21 (by decide) ?_
  refine r_newa (atype := .int) (ty := .int) (N' := 40) (a0 := (40, .inl (fun _ => 0))) (gc := gI G) hx hb (hts _ wmX3_init_rwinit_3) rfl hK hw hA (fun _ => rfl) (by decide) (by decide) (Nat.le_of_ble_eq_true rfl) (Nat.le_of_ble_eq_true rfl) (Nat.le_of_ble_eq_true rfl) dX3_init_23 (fun _ h9 => g_int hK h9) rfl rfl (fun q23 H hw => ?_)
  have hw : wW G A9 s9.heap ([(a, .inr (3, [.int 0, .ref q7, .ref q15, .null, .null, .null, .null])), (q7, .inl (gI G, 40, .inl (fun _ => 0))), (q15, .inl (gI G, 40, .inl (fun _ => 0))), (q23, .inl (gI G, 40, .inl (fun _ => 0)))]) H locs := hw
  refine r_putF (ci := 3) (v := .ref q23) (ty := (.array .int)) (C := RX3) (T := TX3) (N := 7) hx hb hts wiX3_init_rwinit_X3 tyX3 tyX3_ok nmX3 hown hK hw 0 rfl rfl 3 (by decide) wmX3_init_rwinit_6 (fun _ h9 => h9) rfl hin rfl (by decide +kernel) rfl rfl (Nat.le_of_ble_eq_true rfl) dX3_init_25 (ws' := [(a, .inr (3, [.int 0, .ref q7, .ref q15, .ref q23, .null, .null, .null])), (q7, .inl (gI G, 40, .inl (fun _ => 0))), (q15, .inl (gI G, 40, .inl (fun _ => 0))), (q23, .inl (gI G, 40, .inl (fun _ => 0)))]) rfl (fun H locs hw => ?_)
  refine lv_aload_n hx hb dX3_init_28 rfl (lv_at hl 0 rfl) ?_
  refine lv_bipush (v := 40) hx hb dX3_init_29 (by decide) ?_
  refine r_newa (atype := .int) (ty := .int) (N' := 40) (a0 := (40, .inl (fun _ => 0))) (gc := gI G) hx hb (hts _ wmX3_init_rwinit_3) rfl hK hw hA (fun _ => rfl) (by decide) (by decide) (Nat.le_of_ble_eq_true rfl) (Nat.le_of_ble_eq_true rfl) (Nat.le_of_ble_eq_true rfl) dX3_init_31 (fun _ h9 => g_int hK h9) rfl rfl (fun q31 H hw => ?_)
  have hw : wW G A9 s9.heap ([(a, .inr (3, [.int 0, .ref q7, .ref q15, .ref q23, .null, .null, .null])), (q7, .inl (gI G, 40, .inl (fun _ => 0))), (q15, .inl (gI G, 40, .inl (fun _ => 0))), (q23, .inl (gI G, 40, .inl (fun _ => 0))), (q31, .inl (gI G, 40, .inl (fun _ => 0)))]) H locs := hw
  refine r_putF (ci := 3) (v := .ref q31) (ty := (.array .int)) (C := RX3) (T := TX3) (N := 7) hx hb hts wiX3_init_rwinit_X3 tyX3 tyX3_ok nmX3 hown hK hw 0 rfl rfl 4 (by decide) wmX3_init_rwinit_7 (fun _ h9 => h9) rfl hin rfl (by decide +kernel) rfl rfl (Nat.le_of_ble_eq_true rfl) dX3_init_33 (ws' := [(a, .inr (3, [.int 0, .ref q7, .ref q15, .ref q23, .ref q31, .null, .null])), (q7, .inl (gI G, 40, .inl (fun _ => 0))), (q15, .inl (gI G, 40, .inl (fun _ => 0))), (q23, .inl (gI G, 40, .inl (fun _ => 0))), (q31, .inl (gI G, 40, .inl (fun _ => 0)))]) rfl (fun H locs hw => ?_)
  refine lv_aload_n hx hb dX3_init_36 rfl (lv_at hl 0 rfl) ?_
  refine lv_bipush (v := 40) hx hb dX3_init_37 (by decide) ?_
  refine r_newa (atype := .int) (ty := .int) (N' := 40) (a0 := (40, .inl (fun _ => 0))) (gc := gI G) hx hb (hts _ wmX3_init_rwinit_3) rfl hK hw hA (fun _ => rfl) (by decide) (by decide) (Nat.le_of_ble_eq_true rfl) (Nat.le_of_ble_eq_true rfl) (Nat.le_of_ble_eq_true rfl) dX3_init_39 (fun _ h9 => g_int hK h9) rfl rfl (fun q39 H hw => ?_)
  have hw : wW G A9 s9.heap ([(a, .inr (3, [.int 0, .ref q7, .ref q15, .ref q23, .ref q31, .null, .null])), (q7, .inl (gI G, 40, .inl (fun _ => 0))), (q15, .inl (gI G, 40, .inl (fun _ => 0))), (q23, .inl (gI G, 40, .inl (fun _ => 0))), (q31, .inl (gI G, 40, .inl (fun _ => 0))), (q39, .inl (gI G, 40, .inl (fun _ => 0)))]) H locs := hw
  refine r_putF (ci := 3) (v := .ref q39) (ty := (.array .int)) (C := RX3) (T := TX3) (N := 7) hx hb hts wiX3_init_rwinit_X3 tyX3 tyX3_ok nmX3 hown hK hw 0 rfl rfl 5 (by decide) wmX3_init_rwinit_8 (fun _ h9 => h9) rfl hin rfl (by decide +kernel) rfl rfl (Nat.le_of_ble_eq_true rfl) dX3_init_41 (ws' := [(a, .inr (3, [.int 0, .ref q7, .ref q15, .ref q23, .ref q31, .ref q39, .null])), (q7, .inl (gI G, 40, .inl (fun _ => 0))), (q15, .inl (gI G, 40, .inl (fun _ => 0))), (q23, .inl (gI G, 40, .inl (fun _ => 0))), (q31, .inl (gI G, 40, .inl (fun _ => 0))), (q39, .inl (gI G, 40, .inl (fun _ => 0)))]) rfl (fun H locs hw => ?_)
  refine lv_aload_n hx hb dX3_init_44 rfl (lv_at hl 0 rfl) ?_
  refine lv_iconst (v := 4) hx hb dX3_init_45 (by decide) ?_
  refine lv_bipush (v := 40) hx hb dX3_init_46 (by decide) ?_
  refine r_mna hx hb hown (by rw [show ("[" ++ (FieldType.array .int).toString) = "[[I" from by decide +kernel]; exact hts _ wmX3_init_rwinit_9) hM.1 (hts _ wmX3_init_rwinit_3) hK hw hA (Nat.le_of_ble_eq_true rfl) (Nat.le_of_ble_eq_true rfl) dX3_init_48 rfl rfl (fun q48 r48 H hw => ?_)
  have hw : wW G A9 s9.heap ([(a, .inr (3, [.int 0, .ref q7, .ref q15, .ref q23, .ref q31, .ref q39, .null])), (q7, .inl (gI G, 40, .inl (fun _ => 0))), (q15, .inl (gI G, 40, .inl (fun _ => 0))), (q23, .inl (gI G, 40, .inl (fun _ => 0))), (q31, .inl (gI G, 40, .inl (fun _ => 0))), (q39, .inl (gI G, 40, .inl (fun _ => 0)))] ++ ([(q48, .inl (gM G, 4, .inr (.inr (.inr (.inr (fun i => some (r48 i)))))))] ++ (List.range 4).map (fun i => (r48 i, .inl (gI G, 40, .inl (fun _ => 0)))))) H locs := hw
  refine r_putF (ci := 3) (v := .ref q48) (ty := (.array (.array .int))) (C := RX3) (T := TX3) (N := 7) hx hb hts wiX3_init_rwinit_X3 tyX3 tyX3_ok nmX3 hown hK hw 0 rfl rfl 6 (by decide) wmX3_init_rwinit_10 (fun _ h9 => h9) rfl hin rfl (by decide +kernel) rfl rfl (Nat.le_of_ble_eq_true rfl) dX3_init_52 (ws' := [(a, .inr (3, [.int 0, .ref q7, .ref q15, .ref q23, .ref q31, .ref q39, .ref q48])), (q7, .inl (gI G, 40, .inl (fun _ => 0))), (q15, .inl (gI G, 40, .inl (fun _ => 0))), (q23, .inl (gI G, 40, .inl (fun _ => 0))), (q31, .inl (gI G, 40, .inl (fun _ => 0))), (q39, .inl (gI G, 40, .inl (fun _ => 0)))] ++ ([(q48, .inl (gM G, 4, .inr (.inr (.inr (.inr (fun i => some (r48 i)))))))] ++ (List.range 4).map (fun i => (r48 i, .inl (gI G, 40, .inl (fun _ => 0)))))) rfl (fun H locs hw => ?_)
  exact m_cret hx hb hr hlocks hK hw (Nat.le_of_ble_eq_true rfl) (Nat.le_of_ble_eq_true rfl) dX3_init_55 (q7, q15, q23, q31, q39, q48, r48) (rfl)
