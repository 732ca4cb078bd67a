theorem wiX2_init_bdinit_X1 : ∀ w ∈ wsX10, w ∈ wsX2_init := by decide +kernel
theorem wiX2_init_bdinit_X2 : ∀ w ∈ wsX20, w ∈ wsX2_init := by decide +kernel
theorem wmX2_init_bdinit_0 : Cond.methodLink RX2 3 objectInit ∈ wsX2_init := by decide +kernel
theorem wmX2_init_bdinit_1 : Cond.instanceMethod objectInit ∈ wsX2_init := by decide +kernel
theorem wmX2_init_bdinit_2 : Cond.code objectInit ⟨#[0xb1]⟩ 1 none ∈ wsX2_init := by decide +kernel
theorem wmX2_init_bdinit_3 : Cond.classLink RX2 9 RX1 ∈ wsX2_init := by decide +kernel
theorem wmX2_init_bdinit_4 : Cond.fieldLink RX2 11 "PartSketch$Body" "blocks" "[LPartSketch$Block;" ∈ wsX2_init := by decide +kernel
theorem wmX2_init_bdinit_5 : Cond.arrayClass .int ∈ wsX2_init := by decide +kernel
theorem wmX2_init_bdinit_6 : Cond.fieldLink RX2 17 "PartSketch$Body" "xSides" "[I" ∈ wsX2_init := by decide +kernel
theorem wmX2_init_bdinit_7 : Cond.fieldLink RX2 21 "PartSketch$Body" "ySides" "[I" ∈ wsX2_init := by decide +kernel
theorem wmX2_init_bdinit_8 : Cond.instantiable RX1 10 ∈ wsX2_init := by decide +kernel
theorem wmX2_init_bdinit_9 : Cond.initialized RX1 ∈ wsX2_init := by decide +kernel
theorem wmX2_init_bdinit_10 : Cond.instanceMethod yX1_init ∈ wsX2_init := by decide +kernel
set_option maxHeartbeats 4000000 in
set_option maxRecDepth 100000 in
/-- new Body -/
theorem c_bdinit (l : Launch) (G : gT) (a : Nat) (sz : Nat) : NC (S := Nat × Nat × Nat × (Nat → Nat)) l yX2_init wsX2_init ({ frames := 2, cells := 12, slots := 131, locals := 32 }) G [.ref a] ([(a, .inr (2, [.int 0, .int 0, .null, .null, .null]))]) (fun z9 => wBd G (a, z9) (0, 0, (fun _ => 0), (fun _ => 0), (fun _ => (0, 0, 0, none, 0, 0, 0, 0, 0, 0)))) sz 12 131 := by
  refine n_of (Qc := fun A9 => (va_Qv (fun (_ : Nat × Nat × Nat × (Nat → Nat)) => True) (fun z9 t9 => wPost G A9 (wBd G (a, z9) (0, 0, (fun _ => 0), (fun _ => 0), (fun _ => (0, 0, 0, none, 0, 0, 0, 0, 0, 0)))) t9) A9)) (cc := cX2_init) (maxL := 2) (ret := none) (by decide) rfl (Nat.le_of_ble_eq_true rfl) ?_
  intro p9 e9 s9 m9 A9 be9 mt9 c9 H locs ls hx hb hr hts hown hlocks hin hml hK hA hM hw hl
  have hl : lv_has ls 2 [(0, .ref a)] := hl
  refine lv_aload_n hx hb dX2_init_0 rfl (lv_at hl 0 rfl) ?_
  refine W.objInit hx hb hown (hts _ wmX2_init_bdinit_0) (hts _ wmX2_init_bdinit_1) (hts _ wmX2_init_bdinit_2) rfl (by rw [hml]; exact hl.1) rfl dX2_init_1 (Nat.le_of_ble_eq_true rfl) (Nat.le_of_ble_eq_true rfl) ?_
  refine W.eq (g2 := F0 m9 4 ls []) rfl ?_
  refine lv_aload_n hx hb dX2_init_4 rfl (lv_at hl 0 rfl) ?_
  refine lv_bipush (v := 9) hx hb dX2_init_5 (by decide) ?_
  refine r_newB (N' := 9) hx hb hown (hts _ wmX2_init_bdinit_3) hM.2.1 hK hw hA (by decide) (by decide) (Nat.le_of_ble_eq_true rfl) (Nat.le_of_ble_eq_true rfl) (Nat.le_of_ble_eq_true rfl) dX2_init_7 rfl rfl (fun q7 H hw => ?_)
  have hw : wW G A9 s9.heap ([(a, .inr (2, [.int 0, .int 0, .null, .null, .null])), (q7, .inl (gB G, 9, .inr (.inr (.inr (.inr (fun _ => none))))))]) H locs := hw
  refine r_putF (ci := 2) (v := .ref q7) (ty := (.array (.object "PartSketch$Block"))) (C := RX2) (T := TX2) (N := 5) hx hb hts wiX2_init_bdinit_X2 tyX2 tyX2_ok nmX2 hown hK hw 0 rfl rfl 2 (by decide) wmX2_init_bdinit_4 (fun _ h9 => h9) rfl hin rfl (by decide +kernel) rfl rfl (Nat.le_of_ble_eq_true rfl) dX2_init_10 (ws' := [(a, .inr (2, [.int 0, .int 0, .ref q7, .null, .null])), (q7, .inl (gB G, 9, .inr (.inr (.inr (.inr (fun _ => none))))))]) rfl (fun H locs hw => ?_)
  refine lv_aload_n hx hb dX2_init_13 rfl (lv_at hl 0 rfl) ?_
  refine lv_bipush (v := 16) hx hb dX2_init_14 (by decide) ?_
  refine r_newa (atype := .int) (ty := .int) (N' := 16) (a0 := (16, .inl (fun _ => 0))) (gc := gI G) hx hb (hts _ wmX2_init_bdinit_5) rfl hK hw hA (fun _ => rfl) (by decide) (by decide) (Nat.le_of_ble_eq_true rfl) (Nat.le_of_ble_eq_true rfl) (Nat.le_of_ble_eq_true rfl) dX2_init_16 (fun _ h9 => g_int hK h9) rfl rfl (fun q16 H hw => ?_)
  have hw : wW G A9 s9.heap ([(a, .inr (2, [.int 0, .int 0, .ref q7, .null, .null])), (q7, .inl (gB G, 9, .inr (.inr (.inr (.inr (fun _ => none)))))), (q16, .inl (gI G, 16, .inl (fun _ => 0)))]) H locs := hw
  refine r_putF (ci := 2) (v := .ref q16) (ty := (.array .int)) (C := RX2) (T := TX2) (N := 5) hx hb hts wiX2_init_bdinit_X2 tyX2 tyX2_ok nmX2 hown hK hw 0 rfl rfl 3 (by decide) wmX2_init_bdinit_6 (fun _ h9 => h9) rfl hin rfl (by decide +kernel) rfl rfl (Nat.le_of_ble_eq_true rfl) dX2_init_18 (ws' := [(a, .inr (2, [.int 0, .int 0, .ref q7, .ref q16, .null])), (q7, .inl (gB G, 9, .inr (.inr (.inr (.inr (fun _ => none)))))), (q16, .inl (gI G, 16, .inl (fun _ => 0)))]) rfl (fun H locs hw => ?_)
  refine lv_aload_n hx hb dX2_init_21 rfl (lv_at hl 0 rfl) ?_
  refine lv_bipush (v := 16) hx hb dX2_init_22 (by decide) ?_
  refine r_newa (atype := .int) (ty := .int) (N' := 16) (a0 := (16, .inl (fun _ => 0))) (gc := gI G) hx hb (hts _ wmX2_init_bdinit_5) rfl hK hw hA (fun _ => rfl) (by decide) (by decide) (Nat.le_of_ble_eq_true rfl) (Nat.le_of_ble_eq_true rfl) (Nat.le_of_ble_eq_true rfl) dX2_init_24 (fun _ h9 => g_int hK h9) rfl rfl (fun q24 H hw => ?_)
  have hw : wW G A9 s9.heap ([(a, .inr (2, [.int 0, .int 0, .ref q7, .ref q16, .null])), (q7, .inl (gB G, 9, .inr (.inr (.inr (.inr (fun _ => none)))))), (q16, .inl (gI G, 16, .inl (fun _ => 0))), (q24, .inl (gI G, 16, .inl (fun _ => 0)))]) H locs := hw
  refine r_putF (ci := 2) (v := .ref q24) (ty := (.array .int)) (C := RX2) (T := TX2) (N := 5) hx hb hts wiX2_init_bdinit_X2 tyX2 tyX2_ok nmX2 hown hK hw 0 rfl rfl 4 (by decide) wmX2_init_bdinit_7 (fun _ h9 => h9) rfl hin rfl (by decide +kernel) rfl rfl (Nat.le_of_ble_eq_true rfl) dX2_init_26 (ws' := [(a, .inr (2, [.int 0, .int 0, .ref q7, .ref q16, .ref q24])), (q7, .inl (gB G, 9, .inr (.inr (.inr (.inr (fun _ => none)))))), (q16, .inl (gI G, 16, .inl (fun _ => 0))), (q24, .inl (gI G, 16, .inl (fun _ => 0)))]) rfl (fun H locs hw => ?_)
  refine lv_iconst (v := 0) hx hb dX2_init_29 (by decide) ?_
  refine lv_istore_n (lv' := [(1, .int 0), (0, .ref a)]) hx hb dX2_init_30 rfl hl (by decide) rfl (fun ls hl => ?_)
  have hw : wW G A9 s9.heap (wBh G a q7 q16 q24 0 (fun _ => 0)) H locs := hw
  have loop_31 : ∀ (nf : Nat) (k : Nat) (ad : Nat → Nat) (hnf : (9 - k) < nf) (hk : k ≤ 9), ∀ (H : Heap) (locs : List Loc) (ls : Array Slot), wW G A9 s9.heap (wBh G a q7 q16 q24 k ad) H locs → lv_has ls 2 [(0, .ref a), (1, .int (nI k))] → W p9 l e9 ({ frames := 2, cells := 12, slots := 131, locals := 32 }) s9 m9 [.ref a].toArray be9 mt9 c9 H locs (3 + k) (41 + 10 * k) (MQ be9 (va_Qv (fun (_ : Nat × Nat × Nat × (Nat → Nat)) => True) (fun z9 t9 => wPost G A9 (wBd G (a, z9) (0, 0, (fun _ => 0), (fun _ => 0), (fun _ => (0, 0, 0, none, 0, 0, 0, 0, 0, 0)))) t9) A9) [.ref a].toArray s9 12 131 A9) (F0 m9 31 ls []) := by
    intro nf
    induction nf with
    | zero => intro k ad hnf hk; exact absurd hnf (Nat.not_lt_zero _)
    | succ nf ih_31 =>
      intro k ad hnf hk H locs ls hw hl
      refine lv_iload_n hx hb dX2_init_31 rfl (lv_at hl 1 rfl) ?_
      refine lv_aload_n hx hb dX2_init_32 rfl (lv_at hl 0 rfl) ?_
      refine r_get (ci := 2) (v := .ref q7) (C := RX2) (T := TX2) (N := 5) hx hb hts wiX2_init_bdinit_X2 hown hK hw 0 rfl rfl 2 (by decide) wmX2_init_bdinit_4 (fun _ h9 => h9) rfl dX2_init_33 ?_
      refine va_alen (v := 9) hx hb hK hw.1 1 2 rfl rfl rfl dX2_init_36 ?_
      refine lv_icmp_ge (tgt := 59) hx hb dX2_init_37 (by decide) (fun c_37 => ?_) (fun c_37 => ?_)
      · have hx_37 : 9 ≤ k := ct_ge (k := k) (n := 9) (by omega) (by omega) c_37
        have hk9 : k = 9 := by omega
        subst hk9
        have hw := wBh_done hw
        exact m_cret hx hb hr hlocks hK hw (Nat.le_of_ble_eq_true rfl) (Nat.le_of_ble_eq_true rfl) dX2_init_59 (q7, q16, q24, ad) (rfl)
      · have hc_37 : k < 9 := ct_nge (k := k) (n := 9) (by omega) (by omega) c_37
        refine lv_aload_n hx hb dX2_init_40 rfl (lv_at hl 0 rfl) ?_
        refine r_get (ci := 2) (v := .ref q7) (C := RX2) (T := TX2) (N := 5) hx hb hts wiX2_init_bdinit_X2 hown hK hw 0 rfl rfl 2 (by decide) wmX2_init_bdinit_4 (fun _ h9 => h9) rfl dX2_init_41 ?_
        refine lv_iload_n hx hb dX2_init_44 rfl (lv_at hl 1 rfl) ?_
        refine r_newo (ci := 1) (fs := [.int 0, .int 0, .int 0, .null, .int 0, .int 0, .int 0, .int 0, .int 0, .int 0]) (C := RX1) (T := TX1) (N := 10) hx hb hts wiX2_init_bdinit_X1 tyX1 tyX1_ok hown wmX2_init_bdinit_3 wmX2_init_bdinit_8 wmX2_init_bdinit_9 hK hw hA rfl (fun j hj => by rcases (show j = 0 ∨ j = 1 ∨ j = 2 ∨ j = 3 ∨ j = 4 ∨ j = 5 ∨ j = 6 ∨ j = 7 ∨ j = 8 ∨ j = 9 by omega) with h9 | h9 | h9 | h9 | h9 | h9 | h9 | h9 | h9 | h9 <;> subst h9 <;> rfl) (by show 3 + k + 1 ≤ 12; omega) (by show 41 + 10 * k + 10 ≤ 131; omega) dX2_init_45 rfl rfl (fun q45 H hw => ?_)
        have hw : wW G A9 s9.heap (wBh G a q7 q16 q24 k ad ++ ([(q45, .inr (1, [.int 0, .int 0, .int 0, .null, .int 0, .int 0, .int 0, .int 0, .int 0, .int 0]))])) H locs := hw
        refine lv_dup hx hb dX2_init_48 rfl ?_
        have hwc : wW G A9 s9.heap ((wBh G a q7 q16 q24 k ad) ++ (([(q45, .inr (1, [.int 0, .int 0, .int 0, .null, .int 0, .int 0, .int 0, .int 0, .int 0, .int 0]))]) ++ ([] : va_W))) H locs := hw
        refine r_callc (u := wBh G a q7 q16 q24 k ad) (w := [(q45, .inr (1, [.int 0, .int 0, .int 0, .null, .int 0, .int 0, .int 0, .int 0, .int 0, .int 0]))]) (v := ([] : va_W)) (va_runIN (host := RX4) (As := []) (rest := [.ref q45, .int (nI k), .ref q7]) ⟨hx, hb, hml, hown, hts⟩ (c_bkinit l G q45 H.size) ⟨va_cnB (host := RX4) 0 hts gX2_init_X1_init_n24 rfl rfl rfl hM.2.2.2.2 (hts _ wmX2_init_bdinit_9) (by decide +kernel) ⟨Nat.le_of_ble_eq_true rfl, Nat.le_of_ble_eq_true rfl⟩, rfl, hts _ wmX2_init_bdinit_10⟩ (r_preS hK hwc) rfl rfl hl.1 rfl (lv_room (Nat.le_of_ble_eq_true rfl)) dX2_init_49 ⟨by show 3 + k + 1 + 0 ≤ 12; omega, by show 41 + 10 * k + 10 + 0 ≤ 131; omega⟩) hwc hA rfl rfl (fun z49 H locs hw => ?_)
        have hw : wW G A9 s9.heap (wBh G a q7 q16 q24 k ad ++ ([(q45, .inr (1, [.int 0, .int 0, .int 0, .null, .int 0, .int 0, .int 0, .int 0, .int 0, .int 0]))])) H locs := hw
        refine r_aastB hx hb hK hw 1 (4 + k) rfl wBh_last k rfl (by omega) (by decide) dX2_init_52 (ws' := wBh G a q7 q16 q24 (k + 1) (fun i => if i = k then q45 else ad i)) wBh_step (fun H locs hw => ?_)
        refine lv_iinc (v := nI (k + 1)) (lv' := [(1, .int (nI (k + 1))), (0, .ref a)]) hx hb dX2_init_53 hl (k := 1) rfl (nI_add k 1) (by decide) rfl (fun ls hl => ?_)
        refine lv_goto (tgt := 31) hx hb dX2_init_56 (by decide) ?_
        exact W.widen (by omega) (by omega) (ih_31 (k + 1) (fun i => if i = k then q45 else ad i) (by omega) (by first | assumption | omega | rfl) _ _ _ hw (lv_sub hl [1, 0] rfl))
  exact loop_31 ((9 - 0) + 1) 0 (fun _ => 0) (Nat.lt_succ_self _) (by first | assumption | omega | rfl) _ _ _ hw (lv_sub hl [1, 0] rfl)
