/-! PartSketch: what its methods compute, written as they do it -/
theorem sk_ls {x : Int32} (h0 : ¬ x = 0) (h1 : ¬ x = 1) : Op.lookupswitch.offset (#[((0 : Int), (28 : Int)), (1, 40)] : Array (Int × Int)).toList 52 x.toInt = 52 := by
  have e0 : ¬ (0 : Int) = x.toInt := fun h => h0 (Int32.toInt_inj.mp (by rw [← h]; decide))
  have e1 : ¬ (1 : Int) = x.toInt := fun h => h1 (Int32.toInt_inj.mp (by rw [← h]; decide))
  simp [Op.lookupswitch.offset, e0, e1, Ne.symm e0, Ne.symm e1]
def skOk (so : tOb) (rs : tRw) : Prop := so.1 ≤ 16 ∧ rs.1 ≤ 40 ∧ ∀ k, k < rs.1 → rs.2.2.1 k < 16 ∧ rs.2.2.2.1 k < 16
def axApart (x : tAx) (i j : Nat) (d : Int32) : tAx := if axJudge x i j d = 0 then axJoin x i j d else x
def axAtG (x : tAx) (i : Nat) : Int32 := axJudge x 16 i (x.1 i)
def axToG (x : tAx) (i : Nat) : tAx := axJoin x 16 i (x.1 i)
def skHr (x y : tAx) (i : Nat) : Int32 := if axAtG x i = 2 then 2 else if axAtG y i = 2 then 2 else if axAtG x i = 1 then (if axAtG y i = 1 then 1 else 0) else 0
def skHx (x y : tAx) (i : Nat) : tAx := if axAtG x i = 2 then x else if axAtG y i = 2 then x else if axAtG x i = 0 then axToG x i else x
def skHy (x y : tAx) (i : Nat) : tAx := if axAtG x i = 2 then y else if axAtG y i = 2 then y else if axAtG y i = 0 then axToG y i else y
def skAr (r : tRw) (x y : tAx) (k : Nat) : Int32 := if r.2.1 k = 0 then axJudge x (r.2.2.1 k) (r.2.2.2.1 k) (r.2.2.2.2.1 k) else if r.2.1 k = 1 then axJudge y (r.2.2.1 k) (r.2.2.2.1 k) (r.2.2.2.2.1 k) else skHr x y (r.2.2.1 k)
def skAx (r : tRw) (x y : tAx) (k : Nat) : tAx := if r.2.1 k = 0 then axApart x (r.2.2.1 k) (r.2.2.2.1 k) (r.2.2.2.2.1 k) else if r.2.1 k = 1 then x else skHx x y (r.2.2.1 k)
def skAy (r : tRw) (x y : tAx) (k : Nat) : tAx := if r.2.1 k = 0 then y else if r.2.1 k = 1 then axApart y (r.2.2.1 k) (r.2.2.2.1 k) (r.2.2.2.2.1 k) else skHy x y (r.2.2.1 k)
def skK (r : tRw) (x y : tAx) : Nat → (Nat → Int32) × tAx × tAx
  | 0 => (r.2.2.2.2.2.1, axLooseK x 17, axLooseK y 17)
  | k + 1 => (upd (skK r x y k).1 k (skAr r (skK r x y k).2.1 (skK r x y k).2.2 k), skAx r (skK r x y k).2.1 (skK r x y k).2.2 k, skAy r (skK r x y k).2.1 (skK r x y k).2.2 k)
/-- settled: states, axes -/
def skS (so : tOb) (r : tRw) (x y : tAx) : Nat → Int32 := if so.2 = 0 then (skK r x y r.1).1 else r.2.2.2.2.2.1
def skX (so : tOb) (r : tRw) (x y : tAx) : tAx := if so.2 = 0 then axPinK (skK r x y r.1).2.1 so.1 else x
def skY (so : tOb) (r : tRw) (x y : tAx) : tAx := if so.2 = 0 then axPinK (skK r x y r.1).2.2 so.1 else y
def skF (so : tOb) : Int32 := if so.2 = 0 then 1 else so.2
def skB (so : tOb) (r : tRw) (x y : tAx) (b : tBd) : tBd := bdMeas (skX so r x y) (skY so r x y) b
def skT (b : tBd) : tBd := (b.1, b.2.1, (bdGs b).2.1, (bdGs b).2.2, b.2.2.2.2)
def skVol (b : tBd) : Int32 := bdWhole b - bdTaken b
def skPri (b : tBd) : Int32 := 2 * bdWhole b + 1 * bdTaken b + 100 * bitc (ddK b.2.2.2.2 b.2.1)

theorem bdMeas_n {x y : tAx} {b : tBd} : (bdMeas x y b).2.1 = b.2.1 := by
  unfold bdMeas
  split <;> rfl

theorem wiX4_moveHint_moveHint_X0 : ∀ w ∈ wsX00, w ∈ wsX4_moveHint := by decide +kernel
theorem wiX4_moveHint_moveHint_X4 : ∀ w ∈ wsX40, w ∈ wsX4_moveHint := by decide +kernel
theorem wmX4_moveHint_moveHint_0 : Cond.fieldLink RX4 12 "PartSketch" "xAxis" "LPartSketch$Axis;" ∈ wsX4_moveHint := by decide +kernel
theorem wmX4_moveHint_moveHint_1 : Cond.fieldLink RX4 182 "PartSketch$Axis" "hint" "[I" ∈ wsX4_moveHint := by decide +kernel
theorem wmX4_moveHint_moveHint_2 : Cond.fieldLink RX4 16 "PartSketch" "yAxis" "LPartSketch$Axis;" ∈ wsX4_moveHint := by decide +kernel
theorem wmX4_moveHint_moveHint_3 : Cond.fieldLink RX4 67 "PartSketch" "settled" "Z" ∈ wsX4_moveHint := by decide +kernel
set_option maxHeartbeats 4000000 in
set_option maxRecDepth 100000 in
/-- moveHint -/
theorem c_moveHint (l : Launch) (G : gT) (so : tOb) (x : aAx) (tx : tAx) (y : aAx) (ty : tAx) (o : Nat) (r : aRw) (b : aBd) (i : Nat) (u : Int32) (v : Int32) (hi : i < 16) (sz : Nat) : MV l yX4_moveHint wsX4_moveHint ({ frames := 0, cells := 0, slots := 0, locals := 0 }) G [.ref o, .int (nI i), .int u, .int v] (wOb G (o, x.1, y.1, r.1, b.1) so ++ (wAx G x tx ++ (wAx G y ty))) (wOb G (o, x.1, y.1, r.1, b.1) (so.1, 0) ++ (wAx G x ((upd tx.1 i u), tx.2.1, tx.2.2.1, tx.2.2.2) ++ (wAx G y ((upd ty.1 i v), ty.2.1, ty.2.2.1, ty.2.2.2)))) sz 0 0 := by
  refine m_of (Qc := fun A9 => (va_Qv (fun (_ : Unit) => True) (fun _ t9 => wPost G A9 (wOb G (o, x.1, y.1, r.1, b.1) (so.1, 0) ++ (wAx G x ((upd tx.1 i u), tx.2.1, tx.2.2.1, tx.2.2.2) ++ (wAx G y ((upd ty.1 i v), ty.2.1, ty.2.2.1, ty.2.2.2)))) t9) A9)) (cc := cX4_moveHint) (maxL := 4) (ret := none) (by decide) rfl (Nat.le_of_ble_eq_true rfl) ?_
  intro p9 e9 s9 m9 A9 be9 mt9 c9 H locs ls hx hb hr hts hown hlocks hin hml hK hA hw hl
  have hl : lv_has ls 4 [(0, .ref o), (1, .int (nI i)), (2, .int u), (3, .int v)] := hl
  refine lv_aload_n hx hb dX4_moveHint_0 rfl (lv_at hl 0 rfl) ?_
  refine r_get (ci := 4) (v := .ref x.1) (C := RX4) (T := TX4) (N := 6) hx hb hts wiX4_moveHint_moveHint_X4 hown hK hw 0 rfl rfl 0 (by decide) wmX4_moveHint_moveHint_0 (fun _ h9 => h9) rfl dX4_moveHint_1 ?_
  refine r_get (ci := 0) (v := .ref x.2.1) (C := RX0) (T := TX0) (N := 4) hx hb hts wiX4_moveHint_moveHint_X0 hown hK hw 1 rfl rfl 0 (by decide) wmX4_moveHint_moveHint_1 (fun _ h9 => h9) rfl dX4_moveHint_4 ?_
  refine lv_iload_n hx hb dX4_moveHint_7 rfl (lv_at hl 1 rfl) ?_
  refine lv_iload_n hx hb dX4_moveHint_8 rfl (lv_at hl 2 rfl) ?_
  refine r_iast hx hb hK hw 2 rfl i rfl (by omega) (by decide) dX4_moveHint_9 (ws' := wOb G (o, x.1, y.1, r.1, b.1) so ++ (wAx G x ((upd tx.1 i u), tx.2.1, tx.2.2.1, tx.2.2.2) ++ (wAx G y ty))) rfl (fun H locs hw => ?_)
  refine lv_aload_n hx hb dX4_moveHint_10 rfl (lv_at hl 0 rfl) ?_
  refine r_get (ci := 4) (v := .ref y.1) (C := RX4) (T := TX4) (N := 6) hx hb hts wiX4_moveHint_moveHint_X4 hown hK hw 0 rfl rfl 1 (by decide) wmX4_moveHint_moveHint_2 (fun _ h9 => h9) rfl dX4_moveHint_11 ?_
  refine r_get (ci := 0) (v := .ref y.2.1) (C := RX0) (T := TX0) (N := 4) hx hb hts wiX4_moveHint_moveHint_X0 hown hK hw 5 rfl rfl 0 (by decide) wmX4_moveHint_moveHint_1 (fun _ h9 => h9) rfl dX4_moveHint_14 ?_
  refine lv_iload_n hx hb dX4_moveHint_17 rfl (lv_at hl 1 rfl) ?_
  refine lv_iload_n hx hb dX4_moveHint_18 rfl (lv_at hl 3 rfl) ?_
  refine r_iast hx hb hK hw 6 rfl i rfl (by omega) (by decide) dX4_moveHint_19 (ws' := wOb G (o, x.1, y.1, r.1, b.1) so ++ (wAx G x ((upd tx.1 i u), tx.2.1, tx.2.2.1, tx.2.2.2) ++ (wAx G y ((upd ty.1 i v), ty.2.1, ty.2.2.1, ty.2.2.2)))) rfl (fun H locs hw => ?_)
  refine lv_aload_n hx hb dX4_moveHint_20 rfl (lv_at hl 0 rfl) ?_
  refine lv_iconst (v := 0) hx hb dX4_moveHint_21 (by decide) ?_
  refine r_put (ci := 4) (v := .int 0) (ty := .boolean) (C := RX4) (T := TX4) (N := 6) hx hb hts wiX4_moveHint_moveHint_X4 tyX4 tyX4_ok nmX4 hown hK hw 0 rfl rfl 5 (by decide) wmX4_moveHint_moveHint_3 (fun _ h9 => h9) rfl (by decide +kernel) (by rfl) (by rfl) (Nat.le_of_ble_eq_true rfl) dX4_moveHint_22 (ws' := wOb G (o, x.1, y.1, r.1, b.1) (so.1, 0) ++ (wAx G x ((upd tx.1 i u), tx.2.1, tx.2.2.1, tx.2.2.2) ++ (wAx G y ((upd ty.1 i v), ty.2.1, ty.2.2.1, ty.2.2.2)))) rfl (fun H locs hw => ?_)
  exact m_vret hx hb hr hlocks hK hw (Nat.le_of_ble_eq_true rfl) (Nat.le_of_ble_eq_true rfl) dX4_moveHint_25 rfl

set_option maxHeartbeats 4000000 in
set_option maxRecDepth 100000 in
/-- admitApart -/
theorem c_admitApart (l : Launch) (G : gT) (x : aAx) (tx : tAx) (i : Nat) (j : Nat) (d : Int32) (hi : i < 17) (hj : j < 17) (sz : Nat) : MI l yX4_admitApart wsX4_admitApart ({ frames := 1, cells := 0, slots := 0, locals := 27 }) G [.ref x.1, .int (nI i), .int (nI j), .int d] (wAx G x tx) (wAx G x (axApart tx i j d)) sz (axJudge tx i j d) 0 0 := by
  refine m_of (Qc := fun A9 => (va_Qi (fun (r9 : Int32) (_ : Unit) => r9 = (axJudge tx i j d)) (fun _ t9 => wPost G A9 (wAx G x (axApart tx i j d)) t9) A9)) (cc := cX4_admitApart) (maxL := 5) (ret := (some .int)) (by decide) rfl (Nat.le_of_ble_eq_true rfl) ?_
  intro p9 e9 s9 m9 A9 be9 mt9 c9 H locs ls hx hb hr hts hown hlocks hin hml hK hA hw hl
  have hl : lv_has ls 5 [(0, .ref x.1), (1, .int (nI i)), (2, .int (nI j)), (3, .int d)] := hl
  refine lv_aload_n hx hb dX4_admitApart_0 rfl (lv_at hl 0 rfl) ?_
  refine lv_iload_n hx hb dX4_admitApart_1 rfl (lv_at hl 1 rfl) ?_
  refine lv_iload_n hx hb dX4_admitApart_2 rfl (lv_at hl 2 rfl) ?_
  refine lv_iload_n hx hb dX4_admitApart_3 rfl (lv_at hl 3 rfl) ?_
  have hwc : wW G A9 s9.heap (([] : va_W) ++ ((wAx G x tx) ++ ([] : va_W))) H locs := hw
  refine r_calli (res := (axJudge tx i j d)) (u := ([] : va_W)) (w := wAx G x tx) (v := ([] : va_W)) (va_runV (As := [.int (nI i), .int (nI j), .int d]) (rest := []) ⟨hx, hb, hml, hown, hts⟩ (c_judge l G x tx i j d (by first | assumption | omega | decide) (by first | assumption | omega | decide) H.size) (cwV 3 hts gX4_admitApart_X0_judge rfl rfl rfl (by decide +kernel) ⟨Nat.le_of_ble_eq_true rfl, Nat.le_of_ble_eq_true rfl⟩) (r_preV (ci := 0) (q0 := 0) hK hwc rfl rfl rfl) rfl rfl hl.1 rfl (lv_room (Nat.le_of_ble_eq_true rfl)) dX4_admitApart_4 ⟨Nat.le_of_ble_eq_true rfl, Nat.le_of_ble_eq_true rfl⟩) hwc hA rfl rfl (fun H locs hw => ?_)
  have hw : wW G A9 s9.heap (wAx G x tx) H locs := hw
  refine lv_istore (lv' := [(4, .int (axJudge tx i j d)), (0, .ref x.1), (1, .int (nI i)), (2, .int (nI j)), (3, .int d)]) hx hb dX4_admitApart_7 hl (by decide) rfl (fun ls hl => ?_)
  refine lv_iload hx hb dX4_admitApart_9 (lv_at hl 0 rfl) ?_
  refine lv_if_ne (tgt := 21) hx hb dX4_admitApart_11 (by decide) (fun c_11 => ?_) (fun c_11 => ?_)
  · refine lv_iload hx hb dX4_admitApart_21 (lv_at hl 0 rfl) ?_
    exact m_iret hx hb hr hlocks hK hw (Nat.le_of_ble_eq_true rfl) (Nat.le_of_ble_eq_true rfl) dX4_admitApart_23 (show (axJudge tx i j d : Int32) = axJudge tx i j d by simp only [axApart, if_neg c_11]) (show wAx G x tx = wAx G x (axApart tx i j d) by simp only [axApart, if_neg c_11])
  · refine lv_aload_n hx hb dX4_admitApart_14 rfl (lv_at hl 1 rfl) ?_
    refine lv_iload_n hx hb dX4_admitApart_15 rfl (lv_at hl 2 rfl) ?_
    refine lv_iload_n hx hb dX4_admitApart_16 rfl (lv_at hl 3 rfl) ?_
    refine lv_iload_n hx hb dX4_admitApart_17 rfl (lv_at hl 4 rfl) ?_
    have hwc : wW G A9 s9.heap (([] : va_W) ++ ((wAx G x tx) ++ ([] : va_W))) H locs := hw
    refine r_callv (u := ([] : va_W)) (w := wAx G x tx) (v := ([] : va_W)) (va_runV (As := [.int (nI i), .int (nI j), .int d]) (rest := []) ⟨hx, hb, hml, hown, hts⟩ (c_join l G x tx i j d (by first | assumption | omega | decide) (by first | assumption | omega | decide) H.size) (cwV 3 hts gX4_admitApart_X0_join rfl rfl rfl (by decide +kernel) ⟨Nat.le_of_ble_eq_true rfl, Nat.le_of_ble_eq_true rfl⟩) (r_preV (ci := 0) (q0 := 0) hK hwc rfl rfl rfl) rfl rfl hl.1 rfl (lv_room (Nat.le_of_ble_eq_true rfl)) dX4_admitApart_18 ⟨Nat.le_of_ble_eq_true rfl, Nat.le_of_ble_eq_true rfl⟩) hwc hA rfl rfl (fun H locs hw => ?_)
    have hw : wW G A9 s9.heap (wAx G x (axJoin tx i j d)) H locs := hw
    refine lv_iload hx hb dX4_admitApart_21 (lv_at hl 0 rfl) ?_
    exact m_iret hx hb hr hlocks hK hw (Nat.le_of_ble_eq_true rfl) (Nat.le_of_ble_eq_true rfl) dX4_admitApart_23 (show (axJudge tx i j d : Int32) = axJudge tx i j d by simp only [axApart, if_pos c_11]) (show wAx G x (axJoin tx i j d) = wAx G x (axApart tx i j d) by simp only [axApart, if_pos c_11])

theorem wiX4_admitAtHint_admitAtHint_X0 : ∀ w ∈ wsX00, w ∈ wsX4_admitAtHint := by decide +kernel
theorem wiX4_admitAtHint_admitAtHint_X4 : ∀ w ∈ wsX40, w ∈ wsX4_admitAtHint := by decide +kernel
theorem wmX4_admitAtHint_admitAtHint_0 : Cond.fieldLink RX4 12 "PartSketch" "xAxis" "LPartSketch$Axis;" ∈ wsX4_admitAtHint := by decide +kernel
theorem wmX4_admitAtHint_admitAtHint_1 : Cond.fieldLink RX4 182 "PartSketch$Axis" "hint" "[I" ∈ wsX4_admitAtHint := by decide +kernel
theorem wmX4_admitAtHint_admitAtHint_2 : Cond.fieldLink RX4 16 "PartSketch" "yAxis" "LPartSketch$Axis;" ∈ wsX4_admitAtHint := by decide +kernel
set_option maxHeartbeats 4000000 in
set_option maxRecDepth 100000 in
/-- admitAtHint -/
theorem c_admitAtHint (l : Launch) (G : gT) (so : tOb) (x : aAx) (tx : tAx) (y : aAx) (ty : tAx) (o : Nat) (r : aRw) (b : aBd) (i : Nat) (hi : i < 16) (sz : Nat) : MI l yX4_admitAtHint wsX4_admitAtHint ({ frames := 1, cells := 0, slots := 0, locals := 27 }) G [.ref o, .int (nI i)] (wOb G (o, x.1, y.1, r.1, b.1) so ++ (wAx G x tx ++ (wAx G y ty))) (wOb G (o, x.1, y.1, r.1, b.1) so ++ (wAx G x (skHx tx ty i) ++ (wAx G y (skHy tx ty i)))) sz (skHr tx ty i) 0 0 := by
  refine m_of (Qc := fun A9 => (va_Qi (fun (r9 : Int32) (_ : Unit) => r9 = (skHr tx ty i)) (fun _ t9 => wPost G A9 (wOb G (o, x.1, y.1, r.1, b.1) so ++ (wAx G x (skHx tx ty i) ++ (wAx G y (skHy tx ty i)))) t9) A9)) (cc := cX4_admitAtHint) (maxL := 4) (ret := (some .int)) (by decide) rfl (Nat.le_of_ble_eq_true rfl) ?_
  intro p9 e9 s9 m9 A9 be9 mt9 c9 H locs ls hx hb hr hts hown hlocks hin hml hK hA hw hl
  have hl : lv_has ls 4 [(0, .ref o), (1, .int (nI i))] := hl
  refine lv_aload_n hx hb dX4_admitAtHint_0 rfl (lv_at hl 0 rfl) ?_
  refine r_get (ci := 4) (v := .ref x.1) (C := RX4) (T := TX4) (N := 6) hx hb hts wiX4_admitAtHint_admitAtHint_X4 hown hK hw 0 rfl rfl 0 (by decide) wmX4_admitAtHint_admitAtHint_0 (fun _ h9 => h9) rfl dX4_admitAtHint_1 ?_
  refine lv_bipush (v := 16) hx hb dX4_admitAtHint_4 (by decide) ?_
  refine lv_iload_n hx hb dX4_admitAtHint_6 rfl (lv_at hl 1 rfl) ?_
  refine lv_aload_n hx hb dX4_admitAtHint_7 rfl (lv_at hl 0 rfl) ?_
  refine r_get (ci := 4) (v := .ref x.1) (C := RX4) (T := TX4) (N := 6) hx hb hts wiX4_admitAtHint_admitAtHint_X4 hown hK hw 0 rfl rfl 0 (by decide) wmX4_admitAtHint_admitAtHint_0 (fun _ h9 => h9) rfl dX4_admitAtHint_8 ?_
  refine r_get (ci := 0) (v := .ref x.2.1) (C := RX0) (T := TX0) (N := 4) hx hb hts wiX4_admitAtHint_admitAtHint_X0 hown hK hw 1 rfl rfl 0 (by decide) wmX4_admitAtHint_admitAtHint_1 (fun _ h9 => h9) rfl dX4_admitAtHint_11 ?_
  refine lv_iload_n hx hb dX4_admitAtHint_14 rfl (lv_at hl 1 rfl) ?_
  refine r_iald (v := tx.1 i) hx hb hK hw 2 rfl i rfl (by omega) (by decide) rfl dX4_admitAtHint_15 ?_
  have hwc : wW G A9 s9.heap ((wOb G (o, x.1, y.1, r.1, b.1) so) ++ ((wAx G x tx) ++ (wAx G y ty))) H locs := hw
  refine r_calli (res := (axJudge tx 16 i (tx.1 i))) (u := wOb G (o, x.1, y.1, r.1, b.1) so) (w := wAx G x tx) (v := wAx G y ty) (va_runV (As := [.int 16, .int (nI i), .int (tx.1 i)]) (rest := []) ⟨hx, hb, hml, hown, hts⟩ (c_judge l G x tx 16 i (tx.1 i) (by first | assumption | omega | decide) (by first | assumption | omega | decide) H.size) (cwV 3 hts gX4_admitAtHint_X0_judge rfl rfl rfl (by decide +kernel) ⟨Nat.le_of_ble_eq_true rfl, Nat.le_of_ble_eq_true rfl⟩) (r_preV (ci := 0) (q0 := 1) hK hwc rfl rfl rfl) rfl rfl hl.1 rfl (lv_room (Nat.le_of_ble_eq_true rfl)) dX4_admitAtHint_16 ⟨Nat.le_of_ble_eq_true rfl, Nat.le_of_ble_eq_true rfl⟩) hwc hA rfl rfl (fun H locs hw => ?_)
  have hw : wW G A9 s9.heap (wOb G (o, x.1, y.1, r.1, b.1) so ++ (wAx G x tx ++ (wAx G y ty))) H locs := hw
  refine r_top (y := axAtG tx i) rfl ?_
  refine lv_istore_n (lv' := [(2, .int (axAtG tx i)), (0, .ref o), (1, .int (nI i))]) hx hb dX4_admitAtHint_19 rfl hl (by decide) rfl (fun ls hl => ?_)
  refine lv_aload_n hx hb dX4_admitAtHint_20 rfl (lv_at hl 1 rfl) ?_
  refine r_get (ci := 4) (v := .ref y.1) (C := RX4) (T := TX4) (N := 6) hx hb hts wiX4_admitAtHint_admitAtHint_X4 hown hK hw 0 rfl rfl 1 (by decide) wmX4_admitAtHint_admitAtHint_2 (fun _ h9 => h9) rfl dX4_admitAtHint_21 ?_
  refine lv_bipush (v := 16) hx hb dX4_admitAtHint_24 (by decide) ?_
  refine lv_iload_n hx hb dX4_admitAtHint_26 rfl (lv_at hl 2 rfl) ?_
  refine lv_aload_n hx hb dX4_admitAtHint_27 rfl (lv_at hl 1 rfl) ?_
  refine r_get (ci := 4) (v := .ref y.1) (C := RX4) (T := TX4) (N := 6) hx hb hts wiX4_admitAtHint_admitAtHint_X4 hown hK hw 0 rfl rfl 1 (by decide) wmX4_admitAtHint_admitAtHint_2 (fun _ h9 => h9) rfl dX4_admitAtHint_28 ?_
  refine r_get (ci := 0) (v := .ref y.2.1) (C := RX0) (T := TX0) (N := 4) hx hb hts wiX4_admitAtHint_admitAtHint_X0 hown hK hw 5 rfl rfl 0 (by decide) wmX4_admitAtHint_admitAtHint_1 (fun _ h9 => h9) rfl dX4_admitAtHint_31 ?_
  refine lv_iload_n hx hb dX4_admitAtHint_34 rfl (lv_at hl 2 rfl) ?_
  refine r_iald (v := ty.1 i) hx hb hK hw 6 rfl i rfl (by omega) (by decide) rfl dX4_admitAtHint_35 ?_
  have hwc : wW G A9 s9.heap ((wOb G (o, x.1, y.1, r.1, b.1) so ++ (wAx G x tx)) ++ ((wAx G y ty) ++ ([] : va_W))) H locs := hw
  refine r_calli (res := (axJudge ty 16 i (ty.1 i))) (u := wOb G (o, x.1, y.1, r.1, b.1) so ++ (wAx G x tx)) (w := wAx G y ty) (v := ([] : va_W)) (va_runV (As := [.int 16, .int (nI i), .int (ty.1 i)]) (rest := []) ⟨hx, hb, hml, hown, hts⟩ (c_judge l G y ty 16 i (ty.1 i) (by first | assumption | omega | decide) (by first | assumption | omega | decide) H.size) (cwV 3 hts gX4_admitAtHint_X0_judge rfl rfl rfl (by decide +kernel) ⟨Nat.le_of_ble_eq_true rfl, Nat.le_of_ble_eq_true rfl⟩) (r_preV (ci := 0) (q0 := 5) hK hwc rfl rfl rfl) rfl rfl hl.1 rfl (lv_room (Nat.le_of_ble_eq_true rfl)) dX4_admitAtHint_36 ⟨Nat.le_of_ble_eq_true rfl, Nat.le_of_ble_eq_true rfl⟩) hwc hA rfl rfl (fun H locs hw => ?_)
  have hw : wW G A9 s9.heap (wOb G (o, x.1, y.1, r.1, b.1) so ++ (wAx G x tx ++ (wAx G y ty))) H locs := hw
  refine r_top (y := axAtG ty i) rfl ?_
  refine lv_istore_n (lv' := [(3, .int (axAtG ty i)), (2, .int (axAtG tx i)), (0, .ref o), (1, .int (nI i))]) hx hb dX4_admitAtHint_39 rfl hl (by decide) rfl (fun ls hl => ?_)
  refine lv_iload_n hx hb dX4_admitAtHint_40 rfl (lv_at hl 1 rfl) ?_
  refine lv_iconst (v := 2) hx hb dX4_admitAtHint_41 (by decide) ?_
  refine lv_icmp_eq (tgt := 50) hx hb dX4_admitAtHint_42 (by decide) (fun c_42 => ?_) (fun c_42 => ?_)
  · refine lv_iconst (v := 2) hx hb dX4_admitAtHint_50 (by decide) ?_
    exact m_iret hx hb hr hlocks hK hw (Nat.le_of_ble_eq_true rfl) (Nat.le_of_ble_eq_true rfl) dX4_admitAtHint_51 (show (2 : Int32) = skHr tx ty i by simp only [skHr, skHx, skHy, axToG, if_pos c_42]) (show wOb G (o, x.1, y.1, r.1, b.1) so ++ (wAx G x tx ++ (wAx G y ty)) = wOb G (o, x.1, y.1, r.1, b.1) so ++ (wAx G x (skHx tx ty i) ++ (wAx G y (skHy tx ty i))) by simp only [skHr, skHx, skHy, axToG, if_pos c_42])
  · refine lv_iload_n hx hb dX4_admitAtHint_45 rfl (lv_at hl 0 rfl) ?_
    refine lv_iconst (v := 2) hx hb dX4_admitAtHint_46 (by decide) ?_
    refine lv_icmp_ne (tgt := 52) hx hb dX4_admitAtHint_47 (by decide) (fun c_47 => ?_) (fun c_47 => ?_)
    · refine lv_iload_n hx hb dX4_admitAtHint_52 rfl (lv_at hl 1 rfl) ?_
      refine lv_if_ne (tgt := 75) hx hb dX4_admitAtHint_53 (by decide) (fun c_53 => ?_) (fun c_53 => ?_)
      · refine lv_iload_n hx hb dX4_admitAtHint_75 rfl (lv_at hl 0 rfl) ?_
        refine lv_if_ne (tgt := 98) hx hb dX4_admitAtHint_76 (by decide) (fun c_76 => ?_) (fun c_76 => ?_)
        · refine lv_iload_n hx hb dX4_admitAtHint_98 rfl (lv_at hl 1 rfl) ?_
          refine lv_iconst (v := 1) hx hb dX4_admitAtHint_99 (by decide) ?_
          refine lv_icmp_ne (tgt := 112) hx hb dX4_admitAtHint_100 (by decide) (fun c_100 => ?_) (fun c_100 => ?_)
          · refine lv_iconst (v := 0) hx hb dX4_admitAtHint_112 (by decide) ?_
            exact m_iret hx hb hr hlocks hK hw (Nat.le_of_ble_eq_true rfl) (Nat.le_of_ble_eq_true rfl) dX4_admitAtHint_113 (show (0 : Int32) = skHr tx ty i by simp only [skHr, skHx, skHy, axToG, if_neg c_42, if_neg c_47, if_neg c_53, if_neg c_76, if_neg c_100]) (show wOb G (o, x.1, y.1, r.1, b.1) so ++ (wAx G x tx ++ (wAx G y ty)) = wOb G (o, x.1, y.1, r.1, b.1) so ++ (wAx G x (skHx tx ty i) ++ (wAx G y (skHy tx ty i))) by simp only [skHr, skHx, skHy, axToG, if_neg c_42, if_neg c_47, if_neg c_53, if_neg c_76, if_neg c_100])
          · refine lv_iload_n hx hb dX4_admitAtHint_103 rfl (lv_at hl 0 rfl) ?_
            refine lv_iconst (v := 1) hx hb dX4_admitAtHint_104 (by decide) ?_
            refine lv_icmp_ne (tgt := 112) hx hb dX4_admitAtHint_105 (by decide) (fun c_105 => ?_) (fun c_105 => ?_)
            · refine lv_iconst (v := 0) hx hb dX4_admitAtHint_112 (by decide) ?_
              exact m_iret hx hb hr hlocks hK hw (Nat.le_of_ble_eq_true rfl) (Nat.le_of_ble_eq_true rfl) dX4_admitAtHint_113 (show (0 : Int32) = skHr tx ty i by simp only [skHr, skHx, skHy, axToG, if_neg c_42, if_neg c_47, if_neg c_53, if_neg c_76, if_pos c_100, if_neg c_105]) (show wOb G (o, x.1, y.1, r.1, b.1) so ++ (wAx G x tx ++ (wAx G y ty)) = wOb G (o, x.1, y.1, r.1, b.1) so ++ (wAx G x (skHx tx ty i) ++ (wAx G y (skHy tx ty i))) by simp only [skHr, skHx, skHy, axToG, if_neg c_42, if_neg c_47, if_neg c_53, if_neg c_76, if_pos c_100, if_neg c_105])
            · refine lv_iconst (v := 1) hx hb dX4_admitAtHint_108 (by decide) ?_
              refine lv_goto (tgt := 113) hx hb dX4_admitAtHint_109 (by decide) ?_
              exact m_iret hx hb hr hlocks hK hw (Nat.le_of_ble_eq_true rfl) (Nat.le_of_ble_eq_true rfl) dX4_admitAtHint_113 (show (1 : Int32) = skHr tx ty i by simp only [skHr, skHx, skHy, axToG, if_neg c_42, if_neg c_47, if_neg c_53, if_neg c_76, if_pos c_100, if_pos c_105]) (show wOb G (o, x.1, y.1, r.1, b.1) so ++ (wAx G x tx ++ (wAx G y ty)) = wOb G (o, x.1, y.1, r.1, b.1) so ++ (wAx G x (skHx tx ty i) ++ (wAx G y (skHy tx ty i))) by simp only [skHr, skHx, skHy, axToG, if_neg c_42, if_neg c_47, if_neg c_53, if_neg c_76, if_pos c_100, if_pos c_105])
        · refine lv_aload_n hx hb dX4_admitAtHint_79 rfl (lv_at hl 2 rfl) ?_
          refine r_get (ci := 4) (v := .ref y.1) (C := RX4) (T := TX4) (N := 6) hx hb hts wiX4_admitAtHint_admitAtHint_X4 hown hK hw 0 rfl rfl 1 (by decide) wmX4_admitAtHint_admitAtHint_2 (fun _ h9 => h9) rfl dX4_admitAtHint_80 ?_
          refine lv_bipush (v := 16) hx hb dX4_admitAtHint_83 (by decide) ?_
          refine lv_iload_n hx hb dX4_admitAtHint_85 rfl (lv_at hl 3 rfl) ?_
          refine lv_aload_n hx hb dX4_admitAtHint_86 rfl (lv_at hl 2 rfl) ?_
          refine r_get (ci := 4) (v := .ref y.1) (C := RX4) (T := TX4) (N := 6) hx hb hts wiX4_admitAtHint_admitAtHint_X4 hown hK hw 0 rfl rfl 1 (by decide) wmX4_admitAtHint_admitAtHint_2 (fun _ h9 => h9) rfl dX4_admitAtHint_87 ?_
          refine r_get (ci := 0) (v := .ref y.2.1) (C := RX0) (T := TX0) (N := 4) hx hb hts wiX4_admitAtHint_admitAtHint_X0 hown hK hw 5 rfl rfl 0 (by decide) wmX4_admitAtHint_admitAtHint_1 (fun _ h9 => h9) rfl dX4_admitAtHint_90 ?_
          refine lv_iload_n hx hb dX4_admitAtHint_93 rfl (lv_at hl 3 rfl) ?_
          refine r_iald (v := ty.1 i) hx hb hK hw 6 rfl i rfl (by omega) (by decide) rfl dX4_admitAtHint_94 ?_
          have hwc : wW G A9 s9.heap ((wOb G (o, x.1, y.1, r.1, b.1) so ++ (wAx G x tx)) ++ ((wAx G y ty) ++ ([] : va_W))) H locs := hw
          refine r_callv (u := wOb G (o, x.1, y.1, r.1, b.1) so ++ (wAx G x tx)) (w := wAx G y ty) (v := ([] : va_W)) (va_runV (As := [.int 16, .int (nI i), .int (ty.1 i)]) (rest := []) ⟨hx, hb, hml, hown, hts⟩ (c_join l G y ty 16 i (ty.1 i) (by first | assumption | omega | decide) (by first | assumption | omega | decide) H.size) (cwV 3 hts gX4_admitAtHint_X0_join rfl rfl rfl (by decide +kernel) ⟨Nat.le_of_ble_eq_true rfl, Nat.le_of_ble_eq_true rfl⟩) (r_preV (ci := 0) (q0 := 5) hK hwc rfl rfl rfl) rfl rfl hl.1 rfl (lv_room (Nat.le_of_ble_eq_true rfl)) dX4_admitAtHint_95 ⟨Nat.le_of_ble_eq_true rfl, Nat.le_of_ble_eq_true rfl⟩) hwc hA rfl rfl (fun H locs hw => ?_)
          have hw : wW G A9 s9.heap (wOb G (o, x.1, y.1, r.1, b.1) so ++ (wAx G x tx ++ (wAx G y (axJoin ty 16 i (ty.1 i))))) H locs := hw
          refine lv_iload_n hx hb dX4_admitAtHint_98 rfl (lv_at hl 1 rfl) ?_
          refine lv_iconst (v := 1) hx hb dX4_admitAtHint_99 (by decide) ?_
          refine lv_icmp_ne (tgt := 112) hx hb dX4_admitAtHint_100 (by decide) (fun c_100 => ?_) (fun c_100 => ?_)
          · refine lv_iconst (v := 0) hx hb dX4_admitAtHint_112 (by decide) ?_
            exact m_iret hx hb hr hlocks hK hw (Nat.le_of_ble_eq_true rfl) (Nat.le_of_ble_eq_true rfl) dX4_admitAtHint_113 (show (0 : Int32) = skHr tx ty i by simp only [skHr, skHx, skHy, axToG, if_neg c_42, if_neg c_47, if_neg c_53, if_pos c_76, if_neg c_100]) (show wOb G (o, x.1, y.1, r.1, b.1) so ++ (wAx G x tx ++ (wAx G y (axJoin ty 16 i (ty.1 i)))) = wOb G (o, x.1, y.1, r.1, b.1) so ++ (wAx G x (skHx tx ty i) ++ (wAx G y (skHy tx ty i))) by simp only [skHr, skHx, skHy, axToG, if_neg c_42, if_neg c_47, if_neg c_53, if_pos c_76, if_neg c_100])
          · refine lv_iload_n hx hb dX4_admitAtHint_103 rfl (lv_at hl 0 rfl) ?_
            refine lv_iconst (v := 1) hx hb dX4_admitAtHint_104 (by decide) ?_
            refine lv_icmp_ne (tgt := 112) hx hb dX4_admitAtHint_105 (by decide) (fun c_105 => ?_) (fun c_105 => ?_)
            · refine lv_iconst (v := 0) hx hb dX4_admitAtHint_112 (by decide) ?_
              exact m_iret hx hb hr hlocks hK hw (Nat.le_of_ble_eq_true rfl) (Nat.le_of_ble_eq_true rfl) dX4_admitAtHint_113 (show (0 : Int32) = skHr tx ty i by simp only [skHr, skHx, skHy, axToG, if_neg c_42, if_neg c_47, if_neg c_53, if_pos c_76, if_pos c_100, if_neg c_105]) (show wOb G (o, x.1, y.1, r.1, b.1) so ++ (wAx G x tx ++ (wAx G y (axJoin ty 16 i (ty.1 i)))) = wOb G (o, x.1, y.1, r.1, b.1) so ++ (wAx G x (skHx tx ty i) ++ (wAx G y (skHy tx ty i))) by simp only [skHr, skHx, skHy, axToG, if_neg c_42, if_neg c_47, if_neg c_53, if_pos c_76, if_pos c_100, if_neg c_105])
            · refine lv_iconst (v := 1) hx hb dX4_admitAtHint_108 (by decide) ?_
              refine lv_goto (tgt := 113) hx hb dX4_admitAtHint_109 (by decide) ?_
              exact m_iret hx hb hr hlocks hK hw (Nat.le_of_ble_eq_true rfl) (Nat.le_of_ble_eq_true rfl) dX4_admitAtHint_113 (show (1 : Int32) = skHr tx ty i by simp only [skHr, skHx, skHy, axToG, if_neg c_42, if_neg c_47, if_neg c_53, if_pos c_76, if_pos c_100, if_pos c_105]) (show wOb G (o, x.1, y.1, r.1, b.1) so ++ (wAx G x tx ++ (wAx G y (axJoin ty 16 i (ty.1 i)))) = wOb G (o, x.1, y.1, r.1, b.1) so ++ (wAx G x (skHx tx ty i) ++ (wAx G y (skHy tx ty i))) by simp only [skHr, skHx, skHy, axToG, if_neg c_42, if_neg c_47, if_neg c_53, if_pos c_76, if_pos c_100, if_pos c_105])
      · refine lv_aload_n hx hb dX4_admitAtHint_56 rfl (lv_at hl 2 rfl) ?_
        refine r_get (ci := 4) (v := .ref x.1) (C := RX4) (T := TX4) (N := 6) hx hb hts wiX4_admitAtHint_admitAtHint_X4 hown hK hw 0 rfl rfl 0 (by decide) wmX4_admitAtHint_admitAtHint_0 (fun _ h9 => h9) rfl dX4_admitAtHint_57 ?_
        refine lv_bipush (v := 16) hx hb dX4_admitAtHint_60 (by decide) ?_
        refine lv_iload_n hx hb dX4_admitAtHint_62 rfl (lv_at hl 3 rfl) ?_
        refine lv_aload_n hx hb dX4_admitAtHint_63 rfl (lv_at hl 2 rfl) ?_
        refine r_get (ci := 4) (v := .ref x.1) (C := RX4) (T := TX4) (N := 6) hx hb hts wiX4_admitAtHint_admitAtHint_X4 hown hK hw 0 rfl rfl 0 (by decide) wmX4_admitAtHint_admitAtHint_0 (fun _ h9 => h9) rfl dX4_admitAtHint_64 ?_
        refine r_get (ci := 0) (v := .ref x.2.1) (C := RX0) (T := TX0) (N := 4) hx hb hts wiX4_admitAtHint_admitAtHint_X0 hown hK hw 1 rfl rfl 0 (by decide) wmX4_admitAtHint_admitAtHint_1 (fun _ h9 => h9) rfl dX4_admitAtHint_67 ?_
        refine lv_iload_n hx hb dX4_admitAtHint_70 rfl (lv_at hl 3 rfl) ?_
        refine r_iald (v := tx.1 i) hx hb hK hw 2 rfl i rfl (by omega) (by decide) rfl dX4_admitAtHint_71 ?_
        have hwc : wW G A9 s9.heap ((wOb G (o, x.1, y.1, r.1, b.1) so) ++ ((wAx G x tx) ++ (wAx G y ty))) H locs := hw
        refine r_callv (u := wOb G (o, x.1, y.1, r.1, b.1) so) (w := wAx G x tx) (v := wAx G y ty) (va_runV (As := [.int 16, .int (nI i), .int (tx.1 i)]) (rest := []) ⟨hx, hb, hml, hown, hts⟩ (c_join l G x tx 16 i (tx.1 i) (by first | assumption | omega | decide) (by first | assumption | omega | decide) H.size) (cwV 3 hts gX4_admitAtHint_X0_join rfl rfl rfl (by decide +kernel) ⟨Nat.le_of_ble_eq_true rfl, Nat.le_of_ble_eq_true rfl⟩) (r_preV (ci := 0) (q0 := 1) hK hwc rfl rfl rfl) rfl rfl hl.1 rfl (lv_room (Nat.le_of_ble_eq_true rfl)) dX4_admitAtHint_72 ⟨Nat.le_of_ble_eq_true rfl, Nat.le_of_ble_eq_true rfl⟩) hwc hA rfl rfl (fun H locs hw => ?_)
        have hw : wW G A9 s9.heap (wOb G (o, x.1, y.1, r.1, b.1) so ++ (wAx G x (axJoin tx 16 i (tx.1 i)) ++ (wAx G y ty))) H locs := hw
        refine lv_iload_n hx hb dX4_admitAtHint_75 rfl (lv_at hl 0 rfl) ?_
        refine lv_if_ne (tgt := 98) hx hb dX4_admitAtHint_76 (by decide) (fun c_76 => ?_) (fun c_76 => ?_)
        · refine lv_iload_n hx hb dX4_admitAtHint_98 rfl (lv_at hl 1 rfl) ?_
          refine lv_iconst (v := 1) hx hb dX4_admitAtHint_99 (by decide) ?_
          refine lv_icmp_ne (tgt := 112) hx hb dX4_admitAtHint_100 (by decide) (fun c_100 => ?_) (fun c_100 => ?_)
          · refine lv_iconst (v := 0) hx hb dX4_admitAtHint_112 (by decide) ?_
            exact m_iret hx hb hr hlocks hK hw (Nat.le_of_ble_eq_true rfl) (Nat.le_of_ble_eq_true rfl) dX4_admitAtHint_113 (show (0 : Int32) = skHr tx ty i by simp only [skHr, skHx, skHy, axToG, if_neg c_42, if_neg c_47, if_pos c_53, if_neg c_76, if_neg c_100]) (show wOb G (o, x.1, y.1, r.1, b.1) so ++ (wAx G x (axJoin tx 16 i (tx.1 i)) ++ (wAx G y ty)) = wOb G (o, x.1, y.1, r.1, b.1) so ++ (wAx G x (skHx tx ty i) ++ (wAx G y (skHy tx ty i))) by simp only [skHr, skHx, skHy, axToG, if_neg c_42, if_neg c_47, if_pos c_53, if_neg c_76, if_neg c_100])
          · refine lv_iload_n hx hb dX4_admitAtHint_103 rfl (lv_at hl 0 rfl) ?_
            refine lv_iconst (v := 1) hx hb dX4_admitAtHint_104 (by decide) ?_
            refine lv_icmp_ne (tgt := 112) hx hb dX4_admitAtHint_105 (by decide) (fun c_105 => ?_) (fun c_105 => ?_)
            · refine lv_iconst (v := 0) hx hb dX4_admitAtHint_112 (by decide) ?_
              exact m_iret hx hb hr hlocks hK hw (Nat.le_of_ble_eq_true rfl) (Nat.le_of_ble_eq_true rfl) dX4_admitAtHint_113 (show (0 : Int32) = skHr tx ty i by simp only [skHr, skHx, skHy, axToG, if_neg c_42, if_neg c_47, if_pos c_53, if_neg c_76, if_pos c_100, if_neg c_105]) (show wOb G (o, x.1, y.1, r.1, b.1) so ++ (wAx G x (axJoin tx 16 i (tx.1 i)) ++ (wAx G y ty)) = wOb G (o, x.1, y.1, r.1, b.1) so ++ (wAx G x (skHx tx ty i) ++ (wAx G y (skHy tx ty i))) by simp only [skHr, skHx, skHy, axToG, if_neg c_42, if_neg c_47, if_pos c_53, if_neg c_76, if_pos c_100, if_neg c_105])
            · refine lv_iconst (v := 1) hx hb dX4_admitAtHint_108 (by decide) ?_
              refine lv_goto (tgt := 113) hx hb dX4_admitAtHint_109 (by decide) ?_
              exact m_iret hx hb hr hlocks hK hw (Nat.le_of_ble_eq_true rfl) (Nat.le_of_ble_eq_true rfl) dX4_admitAtHint_113 (show (1 : Int32) = skHr tx ty i by simp only [skHr, skHx, skHy, axToG, if_neg c_42, if_neg c_47, if_pos c_53, if_neg c_76, if_pos c_100, if_pos c_105]) (show wOb G (o, x.1, y.1, r.1, b.1) so ++ (wAx G x (axJoin tx 16 i (tx.1 i)) ++ (wAx G y ty)) = wOb G (o, x.1, y.1, r.1, b.1) so ++ (wAx G x (skHx tx ty i) ++ (wAx G y (skHy tx ty i))) by simp only [skHr, skHx, skHy, axToG, if_neg c_42, if_neg c_47, if_pos c_53, if_neg c_76, if_pos c_100, if_pos c_105])
        · refine lv_aload_n hx hb dX4_admitAtHint_79 rfl (lv_at hl 2 rfl) ?_
          refine r_get (ci := 4) (v := .ref y.1) (C := RX4) (T := TX4) (N := 6) hx hb hts wiX4_admitAtHint_admitAtHint_X4 hown hK hw 0 rfl rfl 1 (by decide) wmX4_admitAtHint_admitAtHint_2 (fun _ h9 => h9) rfl dX4_admitAtHint_80 ?_
          refine lv_bipush (v := 16) hx hb dX4_admitAtHint_83 (by decide) ?_
          refine lv_iload_n hx hb dX4_admitAtHint_85 rfl (lv_at hl 3 rfl) ?_
          refine lv_aload_n hx hb dX4_admitAtHint_86 rfl (lv_at hl 2 rfl) ?_
          refine r_get (ci := 4) (v := .ref y.1) (C := RX4) (T := TX4) (N := 6) hx hb hts wiX4_admitAtHint_admitAtHint_X4 hown hK hw 0 rfl rfl 1 (by decide) wmX4_admitAtHint_admitAtHint_2 (fun _ h9 => h9) rfl dX4_admitAtHint_87 ?_
          refine r_get (ci := 0) (v := .ref y.2.1) (C := RX0) (T := TX0) (N := 4) hx hb hts wiX4_admitAtHint_admitAtHint_X0 hown hK hw 5 rfl rfl 0 (by decide) wmX4_admitAtHint_admitAtHint_1 (fun _ h9 => h9) rfl dX4_admitAtHint_90 ?_
          refine lv_iload_n hx hb dX4_admitAtHint_93 rfl (lv_at hl 3 rfl) ?_
          refine r_iald (v := ty.1 i) hx hb hK hw 6 rfl i rfl (by omega) (by decide) rfl dX4_admitAtHint_94 ?_
          have hwc : wW G A9 s9.heap ((wOb G (o, x.1, y.1, r.1, b.1) so ++ (wAx G x (axJoin tx 16 i (tx.1 i)))) ++ ((wAx G y ty) ++ ([] : va_W))) H locs := hw
          refine r_callv (u := wOb G (o, x.1, y.1, r.1, b.1) so ++ (wAx G x (axJoin tx 16 i (tx.1 i)))) (w := wAx G y ty) (v := ([] : va_W)) (va_runV (As := [.int 16, .int (nI i), .int (ty.1 i)]) (rest := []) ⟨hx, hb, hml, hown, hts⟩ (c_join l G y ty 16 i (ty.1 i) (by first | assumption | omega | decide) (by first | assumption | omega | decide) H.size) (cwV 3 hts gX4_admitAtHint_X0_join rfl rfl rfl (by decide +kernel) ⟨Nat.le_of_ble_eq_true rfl, Nat.le_of_ble_eq_true rfl⟩) (r_preV (ci := 0) (q0 := 5) hK hwc rfl rfl rfl) rfl rfl hl.1 rfl (lv_room (Nat.le_of_ble_eq_true rfl)) dX4_admitAtHint_95 ⟨Nat.le_of_ble_eq_true rfl, Nat.le_of_ble_eq_true rfl⟩) hwc hA rfl rfl (fun H locs hw => ?_)
          have hw : wW G A9 s9.heap (wOb G (o, x.1, y.1, r.1, b.1) so ++ (wAx G x (axJoin tx 16 i (tx.1 i)) ++ (wAx G y (axJoin ty 16 i (ty.1 i))))) H locs := hw
          refine lv_iload_n hx hb dX4_admitAtHint_98 rfl (lv_at hl 1 rfl) ?_
          refine lv_iconst (v := 1) hx hb dX4_admitAtHint_99 (by decide) ?_
          refine lv_icmp_ne (tgt := 112) hx hb dX4_admitAtHint_100 (by decide) (fun c_100 => ?_) (fun c_100 => ?_)
          · refine lv_iconst (v := 0) hx hb dX4_admitAtHint_112 (by decide) ?_
            exact m_iret hx hb hr hlocks hK hw (Nat.le_of_ble_eq_true rfl) (Nat.le_of_ble_eq_true rfl) dX4_admitAtHint_113 (show (0 : Int32) = skHr tx ty i by simp only [skHr, skHx, skHy, axToG, if_neg c_42, if_neg c_47, if_pos c_53, if_pos c_76, if_neg c_100]) (show wOb G (o, x.1, y.1, r.1, b.1) so ++ (wAx G x (axJoin tx 16 i (tx.1 i)) ++ (wAx G y (axJoin ty 16 i (ty.1 i)))) = wOb G (o, x.1, y.1, r.1, b.1) so ++ (wAx G x (skHx tx ty i) ++ (wAx G y (skHy tx ty i))) by simp only [skHr, skHx, skHy, axToG, if_neg c_42, if_neg c_47, if_pos c_53, if_pos c_76, if_neg c_100])
          · refine lv_iload_n hx hb dX4_admitAtHint_103 rfl (lv_at hl 0 rfl) ?_
            refine lv_iconst (v := 1) hx hb dX4_admitAtHint_104 (by decide) ?_
            refine lv_icmp_ne (tgt := 112) hx hb dX4_admitAtHint_105 (by decide) (fun c_105 => ?_) (fun c_105 => ?_)
            · refine lv_iconst (v := 0) hx hb dX4_admitAtHint_112 (by decide) ?_
              exact m_iret hx hb hr hlocks hK hw (Nat.le_of_ble_eq_true rfl) (Nat.le_of_ble_eq_true rfl) dX4_admitAtHint_113 (show (0 : Int32) = skHr tx ty i by simp only [skHr, skHx, skHy, axToG, if_neg c_42, if_neg c_47, if_pos c_53, if_pos c_76, if_pos c_100, if_neg c_105]) (show wOb G (o, x.1, y.1, r.1, b.1) so ++ (wAx G x (axJoin tx 16 i (tx.1 i)) ++ (wAx G y (axJoin ty 16 i (ty.1 i)))) = wOb G (o, x.1, y.1, r.1, b.1) so ++ (wAx G x (skHx tx ty i) ++ (wAx G y (skHy tx ty i))) by simp only [skHr, skHx, skHy, axToG, if_neg c_42, if_neg c_47, if_pos c_53, if_pos c_76, if_pos c_100, if_neg c_105])
            · refine lv_iconst (v := 1) hx hb dX4_admitAtHint_108 (by decide) ?_
              refine lv_goto (tgt := 113) hx hb dX4_admitAtHint_109 (by decide) ?_
              exact m_iret hx hb hr hlocks hK hw (Nat.le_of_ble_eq_true rfl) (Nat.le_of_ble_eq_true rfl) dX4_admitAtHint_113 (show (1 : Int32) = skHr tx ty i by simp only [skHr, skHx, skHy, axToG, if_neg c_42, if_neg c_47, if_pos c_53, if_pos c_76, if_pos c_100, if_pos c_105]) (show wOb G (o, x.1, y.1, r.1, b.1) so ++ (wAx G x (axJoin tx 16 i (tx.1 i)) ++ (wAx G y (axJoin ty 16 i (ty.1 i)))) = wOb G (o, x.1, y.1, r.1, b.1) so ++ (wAx G x (skHx tx ty i) ++ (wAx G y (skHy tx ty i))) by simp only [skHr, skHx, skHy, axToG, if_neg c_42, if_neg c_47, if_pos c_53, if_pos c_76, if_pos c_100, if_pos c_105])
    · refine lv_iconst (v := 2) hx hb dX4_admitAtHint_50 (by decide) ?_
      exact m_iret hx hb hr hlocks hK hw (Nat.le_of_ble_eq_true rfl) (Nat.le_of_ble_eq_true rfl) dX4_admitAtHint_51 (show (2 : Int32) = skHr tx ty i by simp only [skHr, skHx, skHy, axToG, if_neg c_42, if_pos c_47]) (show wOb G (o, x.1, y.1, r.1, b.1) so ++ (wAx G x tx ++ (wAx G y ty)) = wOb G (o, x.1, y.1, r.1, b.1) so ++ (wAx G x (skHx tx ty i) ++ (wAx G y (skHy tx ty i))) by simp only [skHr, skHx, skHy, axToG, if_neg c_42, if_pos c_47])

theorem wiX4_admit_admit_X3 : ∀ w ∈ wsX30, w ∈ wsX4_admit := by decide +kernel
theorem wiX4_admit_admit_X4 : ∀ w ∈ wsX40, w ∈ wsX4_admit := by decide +kernel
theorem wmX4_admit_admit_0 : Cond.fieldLink RX4 22 "PartSketch" "rows" "LPartSketch$WishRows;" ∈ wsX4_admit := by decide +kernel
theorem wmX4_admit_admit_1 : Cond.fieldLink RX4 197 "PartSketch$WishRows" "one" "[I" ∈ wsX4_admit := by decide +kernel
theorem wmX4_admit_admit_2 : Cond.fieldLink RX4 200 "PartSketch$WishRows" "other" "[I" ∈ wsX4_admit := by decide +kernel
theorem wmX4_admit_admit_3 : Cond.fieldLink RX4 91 "PartSketch$WishRows" "size" "[I" ∈ wsX4_admit := by decide +kernel
theorem wmX4_admit_admit_4 : Cond.fieldLink RX4 175 "PartSketch$WishRows" "kind" "[I" ∈ wsX4_admit := by decide +kernel
theorem wmX4_admit_admit_5 : Cond.fieldLink RX4 12 "PartSketch" "xAxis" "LPartSketch$Axis;" ∈ wsX4_admit := by decide +kernel
theorem wmX4_admit_admit_6 : Cond.fieldLink RX4 16 "PartSketch" "yAxis" "LPartSketch$Axis;" ∈ wsX4_admit := by decide +kernel
set_option maxHeartbeats 4000000 in
set_option maxRecDepth 100000 in
/-- what becomes of a wish -/
theorem c_admit (l : Launch) (G : gT) (r : aRw) (rs : tRw) (so : tOb) (x : aAx) (tx : tAx) (y : aAx) (ty : tAx) (o : Nat) (b : aBd) (k : Nat) (hk : k < rs.1) (hok : skOk so rs) (sz : Nat) : MI l yX4_admit wsX4_admit ({ frames := 2, cells := 0, slots := 0, locals := 51 }) G [.ref o, .int (nI k)] (wRw G r rs ++ (wOb G (o, x.1, y.1, r.1, b.1) so ++ (wAx G x tx ++ (wAx G y ty)))) (wRw G r rs ++ (wOb G (o, x.1, y.1, r.1, b.1) so ++ (wAx G x (skAx rs tx ty k) ++ (wAx G y (skAy rs tx ty k))))) sz (skAr rs tx ty k) 0 0 := by
  obtain ⟨hnp, hct, hon⟩ := hok
  obtain ⟨h1, h2⟩ := hon k hk
  refine m_of (Qc := fun A9 => (va_Qi (fun (r9 : Int32) (_ : Unit) => r9 = (skAr rs tx ty k)) (fun _ t9 => wPost G A9 (wRw G r rs ++ (wOb G (o, x.1, y.1, r.1, b.1) so ++ (wAx G x (skAx rs tx ty k) ++ (wAx G y (skAy rs tx ty k))))) t9) A9)) (cc := cX4_admit) (maxL := 5) (ret := (some .int)) (by decide) rfl (Nat.le_of_ble_eq_true rfl) ?_
  intro p9 e9 s9 m9 A9 be9 mt9 c9 H locs ls hx hb hr hts hown hlocks hin hml hK hA hw hl
  have hl : lv_has ls 5 [(0, .ref o), (1, .int (nI k))] := hl
  refine lv_aload_n hx hb dX4_admit_0 rfl (lv_at hl 0 rfl) ?_
  refine r_get (ci := 4) (v := .ref r.1) (C := RX4) (T := TX4) (N := 6) hx hb hts wiX4_admit_admit_X4 hown hK hw 11 rfl rfl 2 (by decide) wmX4_admit_admit_0 (fun _ h9 => h9) rfl dX4_admit_1 ?_
  refine r_get (ci := 3) (v := .ref r.2.2.1) (C := RX3) (T := TX3) (N := 7) hx hb hts wiX4_admit_admit_X3 hown hK hw 0 rfl rfl 2 (by decide) wmX4_admit_admit_1 (fun _ h9 => h9) rfl dX4_admit_4 ?_
  refine lv_iload_n hx hb dX4_admit_7 rfl (lv_at hl 1 rfl) ?_
  refine r_iald (v := nI (rs.2.2.1 k)) hx hb hK hw 2 rfl k rfl (by omega) (by decide) rfl dX4_admit_8 ?_
  refine lv_istore_n (lv' := [(2, .int (nI (rs.2.2.1 k))), (0, .ref o), (1, .int (nI k))]) hx hb dX4_admit_9 rfl hl (by decide) rfl (fun ls hl => ?_)
  refine lv_aload_n hx hb dX4_admit_10 rfl (lv_at hl 1 rfl) ?_
  refine r_get (ci := 4) (v := .ref r.1) (C := RX4) (T := TX4) (N := 6) hx hb hts wiX4_admit_admit_X4 hown hK hw 11 rfl rfl 2 (by decide) wmX4_admit_admit_0 (fun _ h9 => h9) rfl dX4_admit_11 ?_
  refine r_get (ci := 3) (v := .ref r.2.2.2.1) (C := RX3) (T := TX3) (N := 7) hx hb hts wiX4_admit_admit_X3 hown hK hw 0 rfl rfl 3 (by decide) wmX4_admit_admit_2 (fun _ h9 => h9) rfl dX4_admit_14 ?_
  refine lv_iload_n hx hb dX4_admit_17 rfl (lv_at hl 2 rfl) ?_
  refine r_iald (v := nI (rs.2.2.2.1 k)) hx hb hK hw 3 rfl k rfl (by omega) (by decide) rfl dX4_admit_18 ?_
  refine lv_istore_n (lv' := [(3, .int (nI (rs.2.2.2.1 k))), (2, .int (nI (rs.2.2.1 k))), (0, .ref o), (1, .int (nI k))]) hx hb dX4_admit_19 rfl hl (by decide) rfl (fun ls hl => ?_)
  refine lv_aload_n hx hb dX4_admit_20 rfl (lv_at hl 2 rfl) ?_
  refine r_get (ci := 4) (v := .ref r.1) (C := RX4) (T := TX4) (N := 6) hx hb hts wiX4_admit_admit_X4 hown hK hw 11 rfl rfl 2 (by decide) wmX4_admit_admit_0 (fun _ h9 => h9) rfl dX4_admit_21 ?_
  refine r_get (ci := 3) (v := .ref r.2.2.2.2.1) (C := RX3) (T := TX3) (N := 7) hx hb hts wiX4_admit_admit_X3 hown hK hw 0 rfl rfl 4 (by decide) wmX4_admit_admit_3 (fun _ h9 => h9) rfl dX4_admit_24 ?_
  refine lv_iload_n hx hb dX4_admit_27 rfl (lv_at hl 3 rfl) ?_
  refine r_iald (v := rs.2.2.2.2.1 k) hx hb hK hw 4 rfl k rfl (by omega) (by decide) rfl dX4_admit_28 ?_
  refine lv_istore (lv' := [(4, .int (rs.2.2.2.2.1 k)), (3, .int (nI (rs.2.2.2.1 k))), (2, .int (nI (rs.2.2.1 k))), (0, .ref o), (1, .int (nI k))]) hx hb dX4_admit_29 hl (by decide) rfl (fun ls hl => ?_)
  refine lv_aload_n hx hb dX4_admit_31 rfl (lv_at hl 3 rfl) ?_
  refine r_get (ci := 4) (v := .ref r.1) (C := RX4) (T := TX4) (N := 6) hx hb hts wiX4_admit_admit_X4 hown hK hw 11 rfl rfl 2 (by decide) wmX4_admit_admit_0 (fun _ h9 => h9) rfl dX4_admit_32 ?_
  refine r_get (ci := 3) (v := .ref r.2.1) (C := RX3) (T := TX3) (N := 7) hx hb hts wiX4_admit_admit_X3 hown hK hw 0 rfl rfl 1 (by decide) wmX4_admit_admit_4 (fun _ h9 => h9) rfl dX4_admit_35 ?_
  refine lv_iload_n hx hb dX4_admit_38 rfl (lv_at hl 4 rfl) ?_
  refine r_iald (v := rs.2.1 k) hx hb hK hw 1 rfl k rfl (by omega) (by decide) rfl dX4_admit_39 ?_
  by_cases c_40_0 : (rs.2.1 k) = 0
  · refine lv_lookup (off := 28) (tgt := 68) hx hb dX4_admit_40 (by decide) (by rw [c_40_0]; decide) (by decide) ?_
    refine lv_aload_n hx hb dX4_admit_68 rfl (lv_at hl 3 rfl) ?_
    refine r_get (ci := 4) (v := .ref x.1) (C := RX4) (T := TX4) (N := 6) hx hb hts wiX4_admit_admit_X4 hown hK hw 11 rfl rfl 0 (by decide) wmX4_admit_admit_5 (fun _ h9 => h9) rfl dX4_admit_69 ?_
    refine lv_iload_n hx hb dX4_admit_72 rfl (lv_at hl 2 rfl) ?_
    refine lv_iload_n hx hb dX4_admit_73 rfl (lv_at hl 1 rfl) ?_
    refine lv_iload hx hb dX4_admit_74 (lv_at hl 0 rfl) ?_
    have hwc : wW G A9 s9.heap ((wRw G r rs ++ (wOb G (o, x.1, y.1, r.1, b.1) so)) ++ ((wAx G x tx) ++ (wAx G y ty))) H locs := hw
    refine r_calli (res := (axJudge tx (rs.2.2.1 k) (rs.2.2.2.1 k) (rs.2.2.2.2.1 k))) (u := wRw G r rs ++ (wOb G (o, x.1, y.1, r.1, b.1) so)) (w := wAx G x tx) (v := wAx G y ty) (va_runS (As := [.ref x.1, .int (nI (rs.2.2.1 k)), .int (nI (rs.2.2.2.1 k)), .int (rs.2.2.2.2.1 k)]) (rest := []) ⟨hx, hb, hml, hown, hts⟩ (c_admitApart l G x tx (rs.2.2.1 k) (rs.2.2.2.1 k) (rs.2.2.2.2.1 k) (by first | assumption | omega | decide) (by first | assumption | omega | decide) H.size) (va_cwS 4 hts gX4_admit_X4_admitApart rfl rfl rfl (by decide +kernel) ⟨Nat.le_of_ble_eq_true rfl, Nat.le_of_ble_eq_true rfl⟩) (r_preS hK hwc) rfl rfl hl.1 rfl (lv_room (Nat.le_of_ble_eq_true rfl)) dX4_admit_76 ⟨Nat.le_of_ble_eq_true rfl, Nat.le_of_ble_eq_true rfl⟩) hwc hA rfl rfl (fun H locs hw => ?_)
    have hw : wW G A9 s9.heap (wRw G r rs ++ (wOb G (o, x.1, y.1, r.1, b.1) so ++ (wAx G x (axApart tx (rs.2.2.1 k) (rs.2.2.2.1 k) (rs.2.2.2.2.1 k)) ++ (wAx G y ty)))) H locs := hw
    exact m_iret hx hb hr hlocks hK hw (Nat.le_of_ble_eq_true rfl) (Nat.le_of_ble_eq_true rfl) dX4_admit_79 (show (axJudge tx (rs.2.2.1 k) (rs.2.2.2.1 k) (rs.2.2.2.2.1 k) : Int32) = skAr rs tx ty k by simp only [skAr, skAx, skAy, if_pos c_40_0]) (show wRw G r rs ++ (wOb G (o, x.1, y.1, r.1, b.1) so ++ (wAx G x (axApart tx (rs.2.2.1 k) (rs.2.2.2.1 k) (rs.2.2.2.2.1 k)) ++ (wAx G y ty))) = wRw G r rs ++ (wOb G (o, x.1, y.1, r.1, b.1) so ++ (wAx G x (skAx rs tx ty k) ++ (wAx G y (skAy rs tx ty k)))) by simp only [skAr, skAx, skAy, if_pos c_40_0])
  by_cases c_40_1 : (rs.2.1 k) = 1
  · refine lv_lookup (off := 40) (tgt := 80) hx hb dX4_admit_40 (by decide) (by rw [c_40_1]; decide) (by decide) ?_
    refine lv_aload_n hx hb dX4_admit_80 rfl (lv_at hl 3 rfl) ?_
    refine r_get (ci := 4) (v := .ref y.1) (C := RX4) (T := TX4) (N := 6) hx hb hts wiX4_admit_admit_X4 hown hK hw 11 rfl rfl 1 (by decide) wmX4_admit_admit_6 (fun _ h9 => h9) rfl dX4_admit_81 ?_
    refine lv_iload_n hx hb dX4_admit_84 rfl (lv_at hl 2 rfl) ?_
    refine lv_iload_n hx hb dX4_admit_85 rfl (lv_at hl 1 rfl) ?_
    refine lv_iload hx hb dX4_admit_86 (lv_at hl 0 rfl) ?_
    have hwc : wW G A9 s9.heap ((wRw G r rs ++ (wOb G (o, x.1, y.1, r.1, b.1) so ++ (wAx G x tx))) ++ ((wAx G y ty) ++ ([] : va_W))) H locs := hw
    refine r_calli (res := (axJudge ty (rs.2.2.1 k) (rs.2.2.2.1 k) (rs.2.2.2.2.1 k))) (u := wRw G r rs ++ (wOb G (o, x.1, y.1, r.1, b.1) so ++ (wAx G x tx))) (w := wAx G y ty) (v := ([] : va_W)) (va_runS (As := [.ref y.1, .int (nI (rs.2.2.1 k)), .int (nI (rs.2.2.2.1 k)), .int (rs.2.2.2.2.1 k)]) (rest := []) ⟨hx, hb, hml, hown, hts⟩ (c_admitApart l G y ty (rs.2.2.1 k) (rs.2.2.2.1 k) (rs.2.2.2.2.1 k) (by first | assumption | omega | decide) (by first | assumption | omega | decide) H.size) (va_cwS 4 hts gX4_admit_X4_admitApart rfl rfl rfl (by decide +kernel) ⟨Nat.le_of_ble_eq_true rfl, Nat.le_of_ble_eq_true rfl⟩) (r_preS hK hwc) rfl rfl hl.1 rfl (lv_room (Nat.le_of_ble_eq_true rfl)) dX4_admit_88 ⟨Nat.le_of_ble_eq_true rfl, Nat.le_of_ble_eq_true rfl⟩) hwc hA rfl rfl (fun H locs hw => ?_)
    have hw : wW G A9 s9.heap (wRw G r rs ++ (wOb G (o, x.1, y.1, r.1, b.1) so ++ (wAx G x tx ++ (wAx G y (axApart ty (rs.2.2.1 k) (rs.2.2.2.1 k) (rs.2.2.2.2.1 k)))))) H locs := hw
    exact m_iret hx hb hr hlocks hK hw (Nat.le_of_ble_eq_true rfl) (Nat.le_of_ble_eq_true rfl) dX4_admit_91 (show (axJudge ty (rs.2.2.1 k) (rs.2.2.2.1 k) (rs.2.2.2.2.1 k) : Int32) = skAr rs tx ty k by simp only [skAr, skAx, skAy, if_neg c_40_0, if_pos c_40_1]) (show wRw G r rs ++ (wOb G (o, x.1, y.1, r.1, b.1) so ++ (wAx G x tx ++ (wAx G y (axApart ty (rs.2.2.1 k) (rs.2.2.2.1 k) (rs.2.2.2.2.1 k))))) = wRw G r rs ++ (wOb G (o, x.1, y.1, r.1, b.1) so ++ (wAx G x (skAx rs tx ty k) ++ (wAx G y (skAy rs tx ty k)))) by simp only [skAr, skAx, skAy, if_neg c_40_0, if_pos c_40_1])
  refine lv_lookup (off := 52) (tgt := 92) hx hb dX4_admit_40 (by decide) (sk_ls c_40_0 c_40_1) (by decide) ?_
  refine lv_aload_n hx hb dX4_admit_92 rfl (lv_at hl 3 rfl) ?_
  refine lv_iload_n hx hb dX4_admit_93 rfl (lv_at hl 2 rfl) ?_
  have hwc : wW G A9 s9.heap ((wRw G r rs) ++ ((wOb G (o, x.1, y.1, r.1, b.1) so ++ (wAx G x tx ++ (wAx G y ty))) ++ ([] : va_W))) H locs := hw
  refine r_calli (res := (skHr tx ty (rs.2.2.1 k))) (u := wRw G r rs) (w := wOb G (o, x.1, y.1, r.1, b.1) so ++ (wAx G x tx ++ (wAx G y ty))) (v := ([] : va_W)) (va_runV (As := [.int (nI (rs.2.2.1 k))]) (rest := []) ⟨hx, hb, hml, hown, hts⟩ (c_admitAtHint l G so x tx y ty o r b (rs.2.2.1 k) (by first | assumption | omega | decide) H.size) (cwV 1 hts gX4_admit_X4_admitAtHint rfl rfl rfl (by decide +kernel) ⟨Nat.le_of_ble_eq_true rfl, Nat.le_of_ble_eq_true rfl⟩) (r_preV (ci := 4) (q0 := 11) hK hwc rfl rfl rfl) rfl rfl hl.1 rfl (lv_room (Nat.le_of_ble_eq_true rfl)) dX4_admit_94 ⟨Nat.le_of_ble_eq_true rfl, Nat.le_of_ble_eq_true rfl⟩) hwc hA rfl rfl (fun H locs hw => ?_)
  have hw : wW G A9 s9.heap (wRw G r rs ++ (wOb G (o, x.1, y.1, r.1, b.1) so ++ (wAx G x (skHx tx ty (rs.2.2.1 k)) ++ (wAx G y (skHy tx ty (rs.2.2.1 k)))))) H locs := hw
  exact m_iret hx hb hr hlocks hK hw (Nat.le_of_ble_eq_true rfl) (Nat.le_of_ble_eq_true rfl) dX4_admit_97 (show (skHr tx ty (rs.2.2.1 k) : Int32) = skAr rs tx ty k by simp only [skAr, skAx, skAy, if_neg c_40_0, if_neg c_40_1]) (show wRw G r rs ++ (wOb G (o, x.1, y.1, r.1, b.1) so ++ (wAx G x (skHx tx ty (rs.2.2.1 k)) ++ (wAx G y (skHy tx ty (rs.2.2.1 k))))) = wRw G r rs ++ (wOb G (o, x.1, y.1, r.1, b.1) so ++ (wAx G x (skAx rs tx ty k) ++ (wAx G y (skAy rs tx ty k)))) by simp only [skAr, skAx, skAy, if_neg c_40_0, if_neg c_40_1])

theorem wiX4_settle_settle_X3 : ∀ w ∈ wsX30, w ∈ wsX4_settle := by decide +kernel
theorem wiX4_settle_settle_X4 : ∀ w ∈ wsX40, w ∈ wsX4_settle := by decide +kernel
theorem wmX4_settle_settle_0 : Cond.fieldLink RX4 67 "PartSketch" "settled" "Z" ∈ wsX4_settle := by decide +kernel
theorem wmX4_settle_settle_1 : Cond.fieldLink RX4 12 "PartSketch" "xAxis" "LPartSketch$Axis;" ∈ wsX4_settle := by decide +kernel
theorem wmX4_settle_settle_2 : Cond.fieldLink RX4 16 "PartSketch" "yAxis" "LPartSketch$Axis;" ∈ wsX4_settle := by decide +kernel
theorem wmX4_settle_settle_3 : Cond.fieldLink RX4 22 "PartSketch" "rows" "LPartSketch$WishRows;" ∈ wsX4_settle := by decide +kernel
theorem wmX4_settle_settle_4 : Cond.fieldLink RX4 62 "PartSketch$WishRows" "count" "I" ∈ wsX4_settle := by decide +kernel
theorem wmX4_settle_settle_5 : Cond.fieldLink RX4 37 "PartSketch" "points" "I" ∈ wsX4_settle := by decide +kernel
theorem wmX4_settle_settle_6 : Cond.fieldLink RX4 81 "PartSketch$WishRows" "state" "[I" ∈ wsX4_settle := by decide +kernel
set_option maxHeartbeats 4000000 in
set_option maxRecDepth 100000 in
/-- settle -/
theorem c_settle (l : Launch) (G : gT) (r : aRw) (rs : tRw) (so : tOb) (x : aAx) (tx : tAx) (y : aAx) (ty : tAx) (o : Nat) (b : aBd) (hok : skOk so rs) (sz : Nat) : MV l yX4_settle wsX4_settle ({ frames := 3, cells := 0, slots := 0, locals := 75 }) G [.ref o] (wRw G r rs ++ (wOb G (o, x.1, y.1, r.1, b.1) so ++ (wAx G x tx ++ (wAx G y ty)))) (wRw G r (rs.1, rs.2.1, rs.2.2.1, rs.2.2.2.1, rs.2.2.2.2.1, (skS so rs tx ty), rs.2.2.2.2.2.2) ++ (wOb G (o, x.1, y.1, r.1, b.1) (so.1, skF so) ++ (wAx G x (skX so rs tx ty) ++ (wAx G y (skY so rs tx ty))))) sz 0 0 := by
  have hok0 := hok
  obtain ⟨hnp, hct, hon⟩ := hok
  refine m_of (Qc := fun A9 => (va_Qv (fun (_ : Unit) => True) (fun _ t9 => wPost G A9 (wRw G r (rs.1, rs.2.1, rs.2.2.1, rs.2.2.2.1, rs.2.2.2.2.1, (skS so rs tx ty), rs.2.2.2.2.2.2) ++ (wOb G (o, x.1, y.1, r.1, b.1) (so.1, skF so) ++ (wAx G x (skX so rs tx ty) ++ (wAx G y (skY so rs tx ty))))) t9) A9)) (cc := cX4_settle) (maxL := 2) (ret := none) (by decide) rfl (Nat.le_of_ble_eq_true rfl) ?_
  intro p9 e9 s9 m9 A9 be9 mt9 c9 H locs ls hx hb hr hts hown hlocks hin hml hK hA hw hl
  have hl : lv_has ls 2 [(0, .ref o)] := hl
  refine lv_aload_n hx hb dX4_settle_0 rfl (lv_at hl 0 rfl) ?_
  refine r_get (ci := 4) (v := .int so.2) (C := RX4) (T := TX4) (N := 6) hx hb hts wiX4_settle_settle_X4 hown hK hw 11 rfl rfl 5 (by decide) wmX4_settle_settle_0 (fun _ h9 => h9) rfl dX4_settle_1 ?_
  refine lv_if_eq (tgt := 8) hx hb dX4_settle_4 (by decide) (fun c_4 => ?_) (fun c_4 => ?_)
  · refine lv_aload_n hx hb dX4_settle_8 rfl (lv_at hl 0 rfl) ?_
    refine r_get (ci := 4) (v := .ref x.1) (C := RX4) (T := TX4) (N := 6) hx hb hts wiX4_settle_settle_X4 hown hK hw 11 rfl rfl 0 (by decide) wmX4_settle_settle_1 (fun _ h9 => h9) rfl dX4_settle_9 ?_
    have hwc : wW G A9 s9.heap ((wRw G r rs ++ (wOb G (o, x.1, y.1, r.1, b.1) so)) ++ ((wAx G x tx) ++ (wAx G y ty))) H locs := hw
    refine r_callv (u := wRw G r rs ++ (wOb G (o, x.1, y.1, r.1, b.1) so)) (w := wAx G x tx) (v := wAx G y ty) (va_runV (As := []) (rest := []) ⟨hx, hb, hml, hown, hts⟩ (c_loosen l G x tx H.size) (cwV 0 hts gX4_settle_X0_loosen rfl rfl rfl (by decide +kernel) ⟨Nat.le_of_ble_eq_true rfl, Nat.le_of_ble_eq_true rfl⟩) (r_preV (ci := 0) (q0 := 12) hK hwc rfl rfl rfl) rfl rfl hl.1 rfl (lv_room (Nat.le_of_ble_eq_true rfl)) dX4_settle_12 ⟨Nat.le_of_ble_eq_true rfl, Nat.le_of_ble_eq_true rfl⟩) hwc hA rfl rfl (fun H locs hw => ?_)
    have hw : wW G A9 s9.heap (wRw G r rs ++ (wOb G (o, x.1, y.1, r.1, b.1) so ++ (wAx G x (axLooseK tx 17) ++ (wAx G y ty)))) H locs := hw
    refine lv_aload_n hx hb dX4_settle_15 rfl (lv_at hl 0 rfl) ?_
    refine r_get (ci := 4) (v := .ref y.1) (C := RX4) (T := TX4) (N := 6) hx hb hts wiX4_settle_settle_X4 hown hK hw 11 rfl rfl 1 (by decide) wmX4_settle_settle_2 (fun _ h9 => h9) rfl dX4_settle_16 ?_
    have hwc : wW G A9 s9.heap ((wRw G r rs ++ (wOb G (o, x.1, y.1, r.1, b.1) so ++ (wAx G x (axLooseK tx 17)))) ++ ((wAx G y ty) ++ ([] : va_W))) H locs := hw
    refine r_callv (u := wRw G r rs ++ (wOb G (o, x.1, y.1, r.1, b.1) so ++ (wAx G x (axLooseK tx 17)))) (w := wAx G y ty) (v := ([] : va_W)) (va_runV (As := []) (rest := []) ⟨hx, hb, hml, hown, hts⟩ (c_loosen l G y ty H.size) (cwV 0 hts gX4_settle_X0_loosen rfl rfl rfl (by decide +kernel) ⟨Nat.le_of_ble_eq_true rfl, Nat.le_of_ble_eq_true rfl⟩) (r_preV (ci := 0) (q0 := 16) hK hwc rfl rfl rfl) rfl rfl hl.1 rfl (lv_room (Nat.le_of_ble_eq_true rfl)) dX4_settle_19 ⟨Nat.le_of_ble_eq_true rfl, Nat.le_of_ble_eq_true rfl⟩) hwc hA rfl rfl (fun H locs hw => ?_)
    have hw : wW G A9 s9.heap (wRw G r rs ++ (wOb G (o, x.1, y.1, r.1, b.1) so ++ (wAx G x (axLooseK tx 17) ++ (wAx G y (axLooseK ty 17))))) H locs := hw
    refine lv_iconst (v := 0) hx hb dX4_settle_22 (by decide) ?_
    refine lv_istore_n (lv' := [(1, .int 0), (0, .ref o)]) hx hb dX4_settle_23 rfl hl (by decide) rfl (fun ls hl => ?_)
    have loop_24 : ∀ (nf : Nat) (k : Nat) (hnf : (rs.1 - k) < nf) (hk : k ≤ rs.1), ∀ (H : Heap) (locs : List Loc) (ls : Array Slot), wW G A9 s9.heap (wRw G r (rs.1, rs.2.1, rs.2.2.1, rs.2.2.2.1, rs.2.2.2.2.1, (skK rs tx ty k).1, rs.2.2.2.2.2.2) ++ (wOb G (o, x.1, y.1, r.1, b.1) so ++ (wAx G x ((skK rs tx ty k).2.1) ++ (wAx G y ((skK rs tx ty k).2.2))))) H locs → lv_has ls 2 [(0, .ref o), (1, .int (nI k))] → W p9 l e9 ({ frames := 3, cells := 0, slots := 0, locals := 75 }) s9 m9 [.ref o].toArray be9 mt9 c9 H locs 0 0 (MQ be9 (va_Qv (fun (_ : Unit) => True) (fun _ t9 => wPost G A9 (wRw G r (rs.1, rs.2.1, rs.2.2.1, rs.2.2.2.1, rs.2.2.2.2.1, (skS so rs tx ty), rs.2.2.2.2.2.2) ++ (wOb G (o, x.1, y.1, r.1, b.1) (so.1, skF so) ++ (wAx G x (skX so rs tx ty) ++ (wAx G y (skY so rs tx ty))))) t9) A9) [.ref o].toArray s9 0 0 A9) (F0 m9 24 ls []) := by
      intro nf
      induction nf with
      | zero => intro k hnf hk; exact absurd hnf (Nat.not_lt_zero _)
      | succ nf ih_24 =>
        intro k hnf hk H locs ls hw hl
        refine lv_iload_n hx hb dX4_settle_24 rfl (lv_at hl 1 rfl) ?_
        refine lv_aload_n hx hb dX4_settle_25 rfl (lv_at hl 0 rfl) ?_
        refine r_get (ci := 4) (v := .ref r.1) (C := RX4) (T := TX4) (N := 6) hx hb hts wiX4_settle_settle_X4 hown hK hw 11 rfl rfl 2 (by decide) wmX4_settle_settle_3 (fun _ h9 => h9) rfl dX4_settle_26 ?_
        refine r_get (ci := 3) (v := .int (nI rs.1)) (C := RX3) (T := TX3) (N := 7) hx hb hts wiX4_settle_settle_X3 hown hK hw 0 rfl rfl 0 (by decide) wmX4_settle_settle_4 (fun _ h9 => h9) rfl dX4_settle_29 ?_
        refine lv_icmp_ge (tgt := 55) hx hb dX4_settle_32 (by decide) (fun c_32 => ?_) (fun c_32 => ?_)
        · have hx_32 : rs.1 ≤ k := ct_ge (k := k) (n := rs.1) (by omega) (by omega) c_32
          refine lv_aload_n hx hb dX4_settle_55 rfl (lv_at hl 0 rfl) ?_
          refine r_get (ci := 4) (v := .ref x.1) (C := RX4) (T := TX4) (N := 6) hx hb hts wiX4_settle_settle_X4 hown hK hw 11 rfl rfl 0 (by decide) wmX4_settle_settle_1 (fun _ h9 => h9) rfl dX4_settle_56 ?_
          refine lv_aload_n hx hb dX4_settle_59 rfl (lv_at hl 0 rfl) ?_
          refine r_get (ci := 4) (v := .int (nI so.1)) (C := RX4) (T := TX4) (N := 6) hx hb hts wiX4_settle_settle_X4 hown hK hw 11 rfl rfl 4 (by decide) wmX4_settle_settle_5 (fun _ h9 => h9) rfl dX4_settle_60 ?_
          have hwc : wW G A9 s9.heap ((wRw G r (rs.1, rs.2.1, rs.2.2.1, rs.2.2.2.1, rs.2.2.2.2.1, (skK rs tx ty k).1, rs.2.2.2.2.2.2) ++ (wOb G (o, x.1, y.1, r.1, b.1) so)) ++ ((wAx G x ((skK rs tx ty k).2.1)) ++ (wAx G y ((skK rs tx ty k).2.2)))) H locs := hw
          refine r_callv (u := wRw G r (rs.1, rs.2.1, rs.2.2.1, rs.2.2.2.1, rs.2.2.2.2.1, (skK rs tx ty k).1, rs.2.2.2.2.2.2) ++ (wOb G (o, x.1, y.1, r.1, b.1) so)) (w := wAx G x ((skK rs tx ty k).2.1)) (v := wAx G y ((skK rs tx ty k).2.2)) (va_runV (As := [.int (nI so.1)]) (rest := []) ⟨hx, hb, hml, hown, hts⟩ (c_pin l G x ((skK rs tx ty k).2.1) so.1 (by first | assumption | omega | decide) H.size) (cwV 1 hts gX4_settle_X0_pinFreeGroups rfl rfl rfl (by decide +kernel) ⟨Nat.le_of_ble_eq_true rfl, Nat.le_of_ble_eq_true rfl⟩) (r_preV (ci := 0) (q0 := 12) hK hwc rfl rfl rfl) rfl rfl hl.1 rfl (lv_room (Nat.le_of_ble_eq_true rfl)) dX4_settle_63 ⟨Nat.le_of_ble_eq_true rfl, Nat.le_of_ble_eq_true rfl⟩) hwc hA rfl rfl (fun H locs hw => ?_)
          have hw : wW G A9 s9.heap (wRw G r (rs.1, rs.2.1, rs.2.2.1, rs.2.2.2.1, rs.2.2.2.2.1, (skK rs tx ty k).1, rs.2.2.2.2.2.2) ++ (wOb G (o, x.1, y.1, r.1, b.1) so ++ (wAx G x (axPinK ((skK rs tx ty k).2.1) so.1) ++ (wAx G y ((skK rs tx ty k).2.2))))) H locs := hw
          refine lv_aload_n hx hb dX4_settle_66 rfl (lv_at hl 0 rfl) ?_
          refine r_get (ci := 4) (v := .ref y.1) (C := RX4) (T := TX4) (N := 6) hx hb hts wiX4_settle_settle_X4 hown hK hw 11 rfl rfl 1 (by decide) wmX4_settle_settle_2 (fun _ h9 => h9) rfl dX4_settle_67 ?_
          refine lv_aload_n hx hb dX4_settle_70 rfl (lv_at hl 0 rfl) ?_
          refine r_get (ci := 4) (v := .int (nI so.1)) (C := RX4) (T := TX4) (N := 6) hx hb hts wiX4_settle_settle_X4 hown hK hw 11 rfl rfl 4 (by decide) wmX4_settle_settle_5 (fun _ h9 => h9) rfl dX4_settle_71 ?_
          have hwc : wW G A9 s9.heap ((wRw G r (rs.1, rs.2.1, rs.2.2.1, rs.2.2.2.1, rs.2.2.2.2.1, (skK rs tx ty k).1, rs.2.2.2.2.2.2) ++ (wOb G (o, x.1, y.1, r.1, b.1) so ++ (wAx G x (axPinK ((skK rs tx ty k).2.1) so.1)))) ++ ((wAx G y ((skK rs tx ty k).2.2)) ++ ([] : va_W))) H locs := hw
          refine r_callv (u := wRw G r (rs.1, rs.2.1, rs.2.2.1, rs.2.2.2.1, rs.2.2.2.2.1, (skK rs tx ty k).1, rs.2.2.2.2.2.2) ++ (wOb G (o, x.1, y.1, r.1, b.1) so ++ (wAx G x (axPinK ((skK rs tx ty k).2.1) so.1)))) (w := wAx G y ((skK rs tx ty k).2.2)) (v := ([] : va_W)) (va_runV (As := [.int (nI so.1)]) (rest := []) ⟨hx, hb, hml, hown, hts⟩ (c_pin l G y ((skK rs tx ty k).2.2) so.1 (by first | assumption | omega | decide) H.size) (cwV 1 hts gX4_settle_X0_pinFreeGroups rfl rfl rfl (by decide +kernel) ⟨Nat.le_of_ble_eq_true rfl, Nat.le_of_ble_eq_true rfl⟩) (r_preV (ci := 0) (q0 := 16) hK hwc rfl rfl rfl) rfl rfl hl.1 rfl (lv_room (Nat.le_of_ble_eq_true rfl)) dX4_settle_74 ⟨Nat.le_of_ble_eq_true rfl, Nat.le_of_ble_eq_true rfl⟩) hwc hA rfl rfl (fun H locs hw => ?_)
          have hw : wW G A9 s9.heap (wRw G r (rs.1, rs.2.1, rs.2.2.1, rs.2.2.2.1, rs.2.2.2.2.1, (skK rs tx ty k).1, rs.2.2.2.2.2.2) ++ (wOb G (o, x.1, y.1, r.1, b.1) so ++ (wAx G x (axPinK ((skK rs tx ty k).2.1) so.1) ++ (wAx G y (axPinK ((skK rs tx ty k).2.2) so.1))))) H locs := hw
          refine lv_aload_n hx hb dX4_settle_77 rfl (lv_at hl 0 rfl) ?_
          refine lv_iconst (v := 1) hx hb dX4_settle_78 (by decide) ?_
          refine r_put (ci := 4) (v := .int 1) (ty := .boolean) (C := RX4) (T := TX4) (N := 6) hx hb hts wiX4_settle_settle_X4 tyX4 tyX4_ok nmX4 hown hK hw 11 rfl rfl 5 (by decide) wmX4_settle_settle_0 (fun _ h9 => h9) rfl (by decide +kernel) (by rfl) (by rfl) (Nat.le_of_ble_eq_true rfl) dX4_settle_79 (ws' := wRw G r (rs.1, rs.2.1, rs.2.2.1, rs.2.2.2.1, rs.2.2.2.2.1, (skK rs tx ty k).1, rs.2.2.2.2.2.2) ++ (wOb G (o, x.1, y.1, r.1, b.1) (so.1, 1) ++ (wAx G x (axPinK ((skK rs tx ty k).2.1) so.1) ++ (wAx G y (axPinK ((skK rs tx ty k).2.2) so.1))))) rfl (fun H locs hw => ?_)
          exact m_vret hx hb hr hlocks hK hw (Nat.le_of_ble_eq_true rfl) (Nat.le_of_ble_eq_true rfl) dX4_settle_82 (show wRw G r (rs.1, rs.2.1, rs.2.2.1, rs.2.2.2.1, rs.2.2.2.2.1, (skK rs tx ty k).1, rs.2.2.2.2.2.2) ++ (wOb G (o, x.1, y.1, r.1, b.1) (so.1, 1) ++ (wAx G x (axPinK ((skK rs tx ty k).2.1) so.1) ++ (wAx G y (axPinK ((skK rs tx ty k).2.2) so.1)))) = wRw G r (rs.1, rs.2.1, rs.2.2.1, rs.2.2.2.1, rs.2.2.2.2.1, (skS so rs tx ty), rs.2.2.2.2.2.2) ++ (wOb G (o, x.1, y.1, r.1, b.1) (so.1, skF so) ++ (wAx G x (skX so rs tx ty) ++ (wAx G y (skY so rs tx ty)))) by simp only [skS, skX, skY, skF, if_pos c_4]; rw [show k = rs.1 by omega])
        · have hc_32 : k < rs.1 := ct_nge (k := k) (n := rs.1) (by omega) (by omega) c_32
          refine lv_aload_n hx hb dX4_settle_35 rfl (lv_at hl 0 rfl) ?_
          refine r_get (ci := 4) (v := .ref r.1) (C := RX4) (T := TX4) (N := 6) hx hb hts wiX4_settle_settle_X4 hown hK hw 11 rfl rfl 2 (by decide) wmX4_settle_settle_3 (fun _ h9 => h9) rfl dX4_settle_36 ?_
          refine r_get (ci := 3) (v := .ref r.2.2.2.2.2.1) (C := RX3) (T := TX3) (N := 7) hx hb hts wiX4_settle_settle_X3 hown hK hw 0 rfl rfl 5 (by decide) wmX4_settle_settle_6 (fun _ h9 => h9) rfl dX4_settle_39 ?_
          refine lv_iload_n hx hb dX4_settle_42 rfl (lv_at hl 1 rfl) ?_
          refine lv_aload_n hx hb dX4_settle_43 rfl (lv_at hl 0 rfl) ?_
          refine lv_iload_n hx hb dX4_settle_44 rfl (lv_at hl 1 rfl) ?_
          have hwc : wW G A9 s9.heap (([] : va_W) ++ ((wRw G r (rs.1, rs.2.1, rs.2.2.1, rs.2.2.2.1, rs.2.2.2.2.1, (skK rs tx ty k).1, rs.2.2.2.2.2.2) ++ (wOb G (o, x.1, y.1, r.1, b.1) so ++ (wAx G x ((skK rs tx ty k).2.1) ++ (wAx G y ((skK rs tx ty k).2.2))))) ++ ([] : va_W))) H locs := hw
          refine r_calli (res := (skAr (rs.1, rs.2.1, rs.2.2.1, rs.2.2.2.1, rs.2.2.2.2.1, (skK rs tx ty k).1, rs.2.2.2.2.2.2) ((skK rs tx ty k).2.1) ((skK rs tx ty k).2.2) k)) (u := ([] : va_W)) (w := wRw G r (rs.1, rs.2.1, rs.2.2.1, rs.2.2.2.1, rs.2.2.2.2.1, (skK rs tx ty k).1, rs.2.2.2.2.2.2) ++ (wOb G (o, x.1, y.1, r.1, b.1) so ++ (wAx G x ((skK rs tx ty k).2.1) ++ (wAx G y ((skK rs tx ty k).2.2))))) (v := ([] : va_W)) (va_runV (As := [.int (nI k)]) (rest := [.int (nI k), .ref r.2.2.2.2.2.1]) ⟨hx, hb, hml, hown, hts⟩ (c_admit l G r (rs.1, rs.2.1, rs.2.2.1, rs.2.2.2.1, rs.2.2.2.2.1, (skK rs tx ty k).1, rs.2.2.2.2.2.2) so x ((skK rs tx ty k).2.1) y ((skK rs tx ty k).2.2) o b k (by first | assumption | omega | decide) hok0 H.size) (cwV 1 hts gX4_settle_X4_admit rfl rfl rfl (by decide +kernel) ⟨Nat.le_of_ble_eq_true rfl, Nat.le_of_ble_eq_true rfl⟩) (r_preV (ci := 4) (q0 := 11) hK hwc rfl rfl rfl) rfl rfl hl.1 rfl (lv_room (Nat.le_of_ble_eq_true rfl)) dX4_settle_45 ⟨Nat.le_of_ble_eq_true rfl, Nat.le_of_ble_eq_true rfl⟩) hwc hA rfl rfl (fun H locs hw => ?_)
          have hw : wW G A9 s9.heap (wRw G r (rs.1, rs.2.1, rs.2.2.1, rs.2.2.2.1, rs.2.2.2.2.1, (skK rs tx ty k).1, rs.2.2.2.2.2.2) ++ (wOb G (o, x.1, y.1, r.1, b.1) so ++ (wAx G x (skAx (rs.1, rs.2.1, rs.2.2.1, rs.2.2.2.1, rs.2.2.2.2.1, (skK rs tx ty k).1, rs.2.2.2.2.2.2) ((skK rs tx ty k).2.1) ((skK rs tx ty k).2.2) k) ++ (wAx G y (skAy (rs.1, rs.2.1, rs.2.2.1, rs.2.2.2.1, rs.2.2.2.2.1, (skK rs tx ty k).1, rs.2.2.2.2.2.2) ((skK rs tx ty k).2.1) ((skK rs tx ty k).2.2) k))))) H locs := hw
          refine r_iast hx hb hK hw 5 rfl k rfl (by omega) (by decide) dX4_settle_48 (ws' := wRw G r (rs.1, rs.2.1, rs.2.2.1, rs.2.2.2.1, rs.2.2.2.2.1, (upd ((skK rs tx ty k).1) k (skAr (rs.1, rs.2.1, rs.2.2.1, rs.2.2.2.1, rs.2.2.2.2.1, (skK rs tx ty k).1, rs.2.2.2.2.2.2) ((skK rs tx ty k).2.1) ((skK rs tx ty k).2.2) k)), rs.2.2.2.2.2.2) ++ (wOb G (o, x.1, y.1, r.1, b.1) so ++ (wAx G x (skAx (rs.1, rs.2.1, rs.2.2.1, rs.2.2.2.1, rs.2.2.2.2.1, (skK rs tx ty k).1, rs.2.2.2.2.2.2) ((skK rs tx ty k).2.1) ((skK rs tx ty k).2.2) k) ++ (wAx G y (skAy (rs.1, rs.2.1, rs.2.2.1, rs.2.2.2.1, rs.2.2.2.2.1, (skK rs tx ty k).1, rs.2.2.2.2.2.2) ((skK rs tx ty k).2.1) ((skK rs tx ty k).2.2) k))))) rfl (fun H locs hw => ?_)
          refine lv_iinc (v := nI (k + 1)) (lv' := [(1, .int (nI (k + 1))), (0, .ref o)]) hx hb dX4_settle_49 hl (k := 1) rfl (nI_add k 1) (by decide) rfl (fun ls hl => ?_)
          refine lv_goto (tgt := 24) hx hb dX4_settle_52 (by decide) ?_
          exact ih_24 (k + 1) (by omega) (by first | assumption | omega | rfl) _ _ _ (wW.eq (show wRw G r (rs.1, rs.2.1, rs.2.2.1, rs.2.2.2.1, rs.2.2.2.2.1, (upd ((skK rs tx ty k).1) k (skAr (rs.1, rs.2.1, rs.2.2.1, rs.2.2.2.1, rs.2.2.2.2.1, (skK rs tx ty k).1, rs.2.2.2.2.2.2) ((skK rs tx ty k).2.1) ((skK rs tx ty k).2.2) k)), rs.2.2.2.2.2.2) ++ (wOb G (o, x.1, y.1, r.1, b.1) so ++ (wAx G x (skAx (rs.1, rs.2.1, rs.2.2.1, rs.2.2.2.1, rs.2.2.2.2.1, (skK rs tx ty k).1, rs.2.2.2.2.2.2) ((skK rs tx ty k).2.1) ((skK rs tx ty k).2.2) k) ++ (wAx G y (skAy (rs.1, rs.2.1, rs.2.2.1, rs.2.2.2.1, rs.2.2.2.2.1, (skK rs tx ty k).1, rs.2.2.2.2.2.2) ((skK rs tx ty k).2.1) ((skK rs tx ty k).2.2) k)))) = wRw G r (rs.1, rs.2.1, rs.2.2.1, rs.2.2.2.1, rs.2.2.2.2.1, (skK rs tx ty (k + 1)).1, rs.2.2.2.2.2.2) ++ (wOb G (o, x.1, y.1, r.1, b.1) so ++ (wAx G x ((skK rs tx ty (k + 1)).2.1) ++ (wAx G y ((skK rs tx ty (k + 1)).2.2)))) from rfl) hw) (lv_sub hl [1, 0] rfl)
    exact loop_24 ((rs.1 - 0) + 1) 0 (Nat.lt_succ_self _) (by first | assumption | omega | rfl) _ _ _ (wW.eq (show wRw G r rs ++ (wOb G (o, x.1, y.1, r.1, b.1) so ++ (wAx G x (axLooseK tx 17) ++ (wAx G y (axLooseK ty 17)))) = wRw G r (rs.1, rs.2.1, rs.2.2.1, rs.2.2.2.1, rs.2.2.2.2.1, (skK rs tx ty 0).1, rs.2.2.2.2.2.2) ++ (wOb G (o, x.1, y.1, r.1, b.1) so ++ (wAx G x ((skK rs tx ty 0).2.1) ++ (wAx G y ((skK rs tx ty 0).2.2)))) from rfl) hw) (lv_sub hl [1, 0] rfl)
  · exact m_vret hx hb hr hlocks hK hw (Nat.le_of_ble_eq_true rfl) (Nat.le_of_ble_eq_true rfl) dX4_settle_7 (show wRw G r rs ++ (wOb G (o, x.1, y.1, r.1, b.1) so ++ (wAx G x tx ++ (wAx G y ty))) = wRw G r (rs.1, rs.2.1, rs.2.2.1, rs.2.2.2.1, rs.2.2.2.2.1, (skS so rs tx ty), rs.2.2.2.2.2.2) ++ (wOb G (o, x.1, y.1, r.1, b.1) (so.1, skF so) ++ (wAx G x (skX so rs tx ty) ++ (wAx G y (skY so rs tx ty)))) by simp only [skS, skX, skY, skF, if_neg c_4])

theorem wiX4_measure_skmeas_X4 : ∀ w ∈ wsX40, w ∈ wsX4_measure := by decide +kernel
theorem wmX4_measure_skmeas_0 : Cond.fieldLink RX4 29 "PartSketch" "body" "LPartSketch$Body;" ∈ wsX4_measure := by decide +kernel
theorem wmX4_measure_skmeas_1 : Cond.fieldLink RX4 12 "PartSketch" "xAxis" "LPartSketch$Axis;" ∈ wsX4_measure := by decide +kernel
theorem wmX4_measure_skmeas_2 : Cond.fieldLink RX4 16 "PartSketch" "yAxis" "LPartSketch$Axis;" ∈ wsX4_measure := by decide +kernel
set_option maxHeartbeats 4000000 in
set_option maxRecDepth 100000 in
/-- measure -/
theorem c_skmeas (l : Launch) (G : gT) (r : aRw) (rs : tRw) (so : tOb) (x : aAx) (tx : tAx) (y : aAx) (ty : tAx) (b : aBd) (bs : tBd) (o : Nat) (hok : skOk so rs) (hb8 : bs.2.1 ≤ 8) (hbk : bdOk bs.2.2.2.2) (sz : Nat) : MV l yX4_measure wsX4_measure ({ frames := 4, cells := 0, slots := 0, locals := 96 }) G [.ref o] (wRw G r rs ++ (wOb G (o, x.1, y.1, r.1, b.1) so ++ (wAx G x tx ++ (wAx G y ty ++ (wBd G b bs))))) (wRw G r (rs.1, rs.2.1, rs.2.2.1, rs.2.2.2.1, rs.2.2.2.2.1, (skS so rs tx ty), rs.2.2.2.2.2.2) ++ (wOb G (o, x.1, y.1, r.1, b.1) (so.1, skF so) ++ (wAx G x (skX so rs tx ty) ++ (wAx G y (skY so rs tx ty) ++ (wBd G b (skB so rs tx ty bs)))))) sz 0 0 := by
  refine m_of (Qc := fun A9 => (va_Qv (fun (_ : Unit) => True) (fun _ t9 => wPost G A9 (wRw G r (rs.1, rs.2.1, rs.2.2.1, rs.2.2.2.1, rs.2.2.2.2.1, (skS so rs tx ty), rs.2.2.2.2.2.2) ++ (wOb G (o, x.1, y.1, r.1, b.1) (so.1, skF so) ++ (wAx G x (skX so rs tx ty) ++ (wAx G y (skY so rs tx ty) ++ (wBd G b (skB so rs tx ty bs)))))) t9) A9)) (cc := cX4_measure) (maxL := 1) (ret := none) (by decide) rfl (Nat.le_of_ble_eq_true rfl) ?_
  intro p9 e9 s9 m9 A9 be9 mt9 c9 H locs ls hx hb hr hts hown hlocks hin hml hK hA hw hl
  have hl : lv_has ls 1 [(0, .ref o)] := hl
  refine lv_aload_n hx hb dX4_measure_0 rfl (lv_at hl 0 rfl) ?_
  have hwc : wW G A9 s9.heap (([] : va_W) ++ ((wRw G r rs ++ (wOb G (o, x.1, y.1, r.1, b.1) so ++ (wAx G x tx ++ (wAx G y ty)))) ++ (wBd G b bs))) H locs := hw
  refine r_callv (u := ([] : va_W)) (w := wRw G r rs ++ (wOb G (o, x.1, y.1, r.1, b.1) so ++ (wAx G x tx ++ (wAx G y ty)))) (v := wBd G b bs) (va_runV (As := []) (rest := []) ⟨hx, hb, hml, hown, hts⟩ (c_settle l G r rs so x tx y ty o b (by first | assumption | omega | decide) H.size) (cwV 0 hts gX4_measure_X4_settle rfl rfl rfl (by decide +kernel) ⟨Nat.le_of_ble_eq_true rfl, Nat.le_of_ble_eq_true rfl⟩) (r_preV (ci := 4) (q0 := 11) hK hwc rfl rfl rfl) rfl rfl hl.1 rfl (lv_room (Nat.le_of_ble_eq_true rfl)) dX4_measure_1 ⟨Nat.le_of_ble_eq_true rfl, Nat.le_of_ble_eq_true rfl⟩) hwc hA rfl rfl (fun H locs hw => ?_)
  have hw : wW G A9 s9.heap (wRw G r (rs.1, rs.2.1, rs.2.2.1, rs.2.2.2.1, rs.2.2.2.2.1, (skS so rs tx ty), rs.2.2.2.2.2.2) ++ (wOb G (o, x.1, y.1, r.1, b.1) (so.1, skF so) ++ (wAx G x (skX so rs tx ty) ++ (wAx G y (skY so rs tx ty) ++ (wBd G b bs))))) H locs := hw
  refine lv_aload_n hx hb dX4_measure_4 rfl (lv_at hl 0 rfl) ?_
  refine r_get (ci := 4) (v := .ref b.1) (C := RX4) (T := TX4) (N := 6) hx hb hts wiX4_measure_skmeas_X4 hown hK hw 11 rfl rfl 3 (by decide) wmX4_measure_skmeas_0 (fun _ h9 => h9) rfl dX4_measure_5 ?_
  refine lv_aload_n hx hb dX4_measure_8 rfl (lv_at hl 0 rfl) ?_
  refine r_get (ci := 4) (v := .ref x.1) (C := RX4) (T := TX4) (N := 6) hx hb hts wiX4_measure_skmeas_X4 hown hK hw 11 rfl rfl 0 (by decide) wmX4_measure_skmeas_1 (fun _ h9 => h9) rfl dX4_measure_9 ?_
  refine lv_aload_n hx hb dX4_measure_12 rfl (lv_at hl 0 rfl) ?_
  refine r_get (ci := 4) (v := .ref y.1) (C := RX4) (T := TX4) (N := 6) hx hb hts wiX4_measure_skmeas_X4 hown hK hw 11 rfl rfl 1 (by decide) wmX4_measure_skmeas_2 (fun _ h9 => h9) rfl dX4_measure_13 ?_
  have hwc : wW G A9 s9.heap ((wRw G r (rs.1, rs.2.1, rs.2.2.1, rs.2.2.2.1, rs.2.2.2.2.1, (skS so rs tx ty), rs.2.2.2.2.2.2) ++ (wOb G (o, x.1, y.1, r.1, b.1) (so.1, skF so))) ++ ((wAx G x (skX so rs tx ty) ++ (wAx G y (skY so rs tx ty) ++ (wBd G b bs))) ++ ([] : va_W))) H locs := hw
  refine r_callv (u := wRw G r (rs.1, rs.2.1, rs.2.2.1, rs.2.2.2.1, rs.2.2.2.2.1, (skS so rs tx ty), rs.2.2.2.2.2.2) ++ (wOb G (o, x.1, y.1, r.1, b.1) (so.1, skF so))) (w := wAx G x (skX so rs tx ty) ++ (wAx G y (skY so rs tx ty) ++ (wBd G b bs))) (v := ([] : va_W)) (va_runV (As := [.ref x.1, .ref y.1]) (rest := []) ⟨hx, hb, hml, hown, hts⟩ (c_bdmeas l G x (skX so rs tx ty) y (skY so rs tx ty) b bs (by first | assumption | omega | decide) (by first | assumption | omega | decide) H.size) (cwV 2 hts gX4_measure_X2_measure rfl rfl rfl (by decide +kernel) ⟨Nat.le_of_ble_eq_true rfl, Nat.le_of_ble_eq_true rfl⟩) (r_preV (ci := 2) (q0 := 20) hK hwc rfl rfl rfl) rfl rfl hl.1 rfl (lv_room (Nat.le_of_ble_eq_true rfl)) dX4_measure_16 ⟨Nat.le_of_ble_eq_true rfl, Nat.le_of_ble_eq_true rfl⟩) hwc hA rfl rfl (fun H locs hw => ?_)
  have hw : wW G A9 s9.heap (wRw G r (rs.1, rs.2.1, rs.2.2.1, rs.2.2.2.1, rs.2.2.2.2.1, (skS so rs tx ty), rs.2.2.2.2.2.2) ++ (wOb G (o, x.1, y.1, r.1, b.1) (so.1, skF so) ++ (wAx G x (skX so rs tx ty) ++ (wAx G y (skY so rs tx ty) ++ (wBd G b (bdMeas (skX so rs tx ty) (skY so rs tx ty) bs)))))) H locs := hw
  exact m_vret hx hb hr hlocks hK hw (Nat.le_of_ble_eq_true rfl) (Nat.le_of_ble_eq_true rfl) dX4_measure_19 rfl

theorem wiX4_wishes_wishes_X3 : ∀ w ∈ wsX30, w ∈ wsX4_wishes := by decide +kernel
theorem wiX4_wishes_wishes_X4 : ∀ w ∈ wsX40, w ∈ wsX4_wishes := by decide +kernel
theorem wmX4_wishes_wishes_0 : Cond.fieldLink RX4 22 "PartSketch" "rows" "LPartSketch$WishRows;" ∈ wsX4_wishes := by decide +kernel
theorem wmX4_wishes_wishes_1 : Cond.fieldLink RX4 62 "PartSketch$WishRows" "count" "I" ∈ wsX4_wishes := by decide +kernel
set_option maxHeartbeats 4000000 in
set_option maxRecDepth 100000 in
/-- wishes -/
theorem c_wishes (l : Launch) (G : gT) (r : aRw) (rs : tRw) (so : tOb) (o : Nat) (x : aAx) (y : aAx) (b : aBd) (sz : Nat) : MI l yX4_wishes wsX4_wishes ({ frames := 0, cells := 0, slots := 0, locals := 0 }) G [.ref o] (wRw G r rs ++ (wOb G (o, x.1, y.1, r.1, b.1) so)) (wRw G r rs ++ (wOb G (o, x.1, y.1, r.1, b.1) so)) sz (nI rs.1) 0 0 := by
  refine m_of (Qc := fun A9 => (va_Qi (fun (r9 : Int32) (_ : Unit) => r9 = (nI rs.1)) (fun _ t9 => wPost G A9 (wRw G r rs ++ (wOb G (o, x.1, y.1, r.1, b.1) so)) t9) A9)) (cc := cX4_wishes) (maxL := 1) (ret := (some .int)) (by decide) rfl (Nat.le_of_ble_eq_true rfl) ?_
  intro p9 e9 s9 m9 A9 be9 mt9 c9 H locs ls hx hb hr hts hown hlocks hin hml hK hA hw hl
  have hl : lv_has ls 1 [(0, .ref o)] := hl
  refine lv_aload_n hx hb dX4_wishes_0 rfl (lv_at hl 0 rfl) ?_
  refine r_get (ci := 4) (v := .ref r.1) (C := RX4) (T := TX4) (N := 6) hx hb hts wiX4_wishes_wishes_X4 hown hK hw 11 rfl rfl 2 (by decide) wmX4_wishes_wishes_0 (fun _ h9 => h9) rfl dX4_wishes_1 ?_
  refine r_get (ci := 3) (v := .int (nI rs.1)) (C := RX3) (T := TX3) (N := 7) hx hb hts wiX4_wishes_wishes_X3 hown hK hw 0 rfl rfl 0 (by decide) wmX4_wishes_wishes_1 (fun _ h9 => h9) rfl dX4_wishes_4 ?_
  exact m_iret hx hb hr hlocks hK hw (Nat.le_of_ble_eq_true rfl) (Nat.le_of_ble_eq_true rfl) dX4_wishes_7 (show (nI rs.1 : Int32) = nI rs.1 by simp only []) rfl

theorem wiX4_freedom_freedom_X0 : ∀ w ∈ wsX00, w ∈ wsX4_freedom := by decide +kernel
theorem wiX4_freedom_freedom_X4 : ∀ w ∈ wsX40, w ∈ wsX4_freedom := by decide +kernel
theorem wmX4_freedom_freedom_0 : Cond.fieldLink RX4 12 "PartSketch" "xAxis" "LPartSketch$Axis;" ∈ wsX4_freedom := by decide +kernel
theorem wmX4_freedom_freedom_1 : Cond.fieldLink RX4 94 "PartSketch$Axis" "freeGroups" "I" ∈ wsX4_freedom := by decide +kernel
theorem wmX4_freedom_freedom_2 : Cond.fieldLink RX4 16 "PartSketch" "yAxis" "LPartSketch$Axis;" ∈ wsX4_freedom := by decide +kernel
set_option maxHeartbeats 4000000 in
set_option maxRecDepth 100000 in
/-- freedom -/
theorem c_freedom (l : Launch) (G : gT) (r : aRw) (rs : tRw) (so : tOb) (x : aAx) (tx : tAx) (y : aAx) (ty : tAx) (o : Nat) (b : aBd) (hok : skOk so rs) (sz : Nat) : MI l yX4_freedom wsX4_freedom ({ frames := 4, cells := 0, slots := 0, locals := 96 }) G [.ref o] (wRw G r rs ++ (wOb G (o, x.1, y.1, r.1, b.1) so ++ (wAx G x tx ++ (wAx G y ty)))) (wRw G r (rs.1, rs.2.1, rs.2.2.1, rs.2.2.2.1, rs.2.2.2.2.1, (skS so rs tx ty), rs.2.2.2.2.2.2) ++ (wOb G (o, x.1, y.1, r.1, b.1) (so.1, skF so) ++ (wAx G x (skX so rs tx ty) ++ (wAx G y (skY so rs tx ty))))) sz ((skX so rs tx ty).2.1 + (skY so rs tx ty).2.1) 0 0 := by
  refine m_of (Qc := fun A9 => (va_Qi (fun (r9 : Int32) (_ : Unit) => r9 = ((skX so rs tx ty).2.1 + (skY so rs tx ty).2.1)) (fun _ t9 => wPost G A9 (wRw G r (rs.1, rs.2.1, rs.2.2.1, rs.2.2.2.1, rs.2.2.2.2.1, (skS so rs tx ty), rs.2.2.2.2.2.2) ++ (wOb G (o, x.1, y.1, r.1, b.1) (so.1, skF so) ++ (wAx G x (skX so rs tx ty) ++ (wAx G y (skY so rs tx ty))))) t9) A9)) (cc := cX4_freedom) (maxL := 1) (ret := (some .int)) (by decide) rfl (Nat.le_of_ble_eq_true rfl) ?_
  intro p9 e9 s9 m9 A9 be9 mt9 c9 H locs ls hx hb hr hts hown hlocks hin hml hK hA hw hl
  have hl : lv_has ls 1 [(0, .ref o)] := hl
  refine lv_aload_n hx hb dX4_freedom_0 rfl (lv_at hl 0 rfl) ?_
  have hwc : wW G A9 s9.heap (([] : va_W) ++ ((wRw G r rs ++ (wOb G (o, x.1, y.1, r.1, b.1) so ++ (wAx G x tx ++ (wAx G y ty)))) ++ ([] : va_W))) H locs := hw
  refine r_callv (u := ([] : va_W)) (w := wRw G r rs ++ (wOb G (o, x.1, y.1, r.1, b.1) so ++ (wAx G x tx ++ (wAx G y ty)))) (v := ([] : va_W)) (va_runV (As := []) (rest := []) ⟨hx, hb, hml, hown, hts⟩ (c_settle l G r rs so x tx y ty o b (by first | assumption | omega | decide) H.size) (cwV 0 hts gX4_freedom_X4_settle rfl rfl rfl (by decide +kernel) ⟨Nat.le_of_ble_eq_true rfl, Nat.le_of_ble_eq_true rfl⟩) (r_preV (ci := 4) (q0 := 11) hK hwc rfl rfl rfl) rfl rfl hl.1 rfl (lv_room (Nat.le_of_ble_eq_true rfl)) dX4_freedom_1 ⟨Nat.le_of_ble_eq_true rfl, Nat.le_of_ble_eq_true rfl⟩) hwc hA rfl rfl (fun H locs hw => ?_)
  have hw : wW G A9 s9.heap (wRw G r (rs.1, rs.2.1, rs.2.2.1, rs.2.2.2.1, rs.2.2.2.2.1, (skS so rs tx ty), rs.2.2.2.2.2.2) ++ (wOb G (o, x.1, y.1, r.1, b.1) (so.1, skF so) ++ (wAx G x (skX so rs tx ty) ++ (wAx G y (skY so rs tx ty))))) H locs := hw
  refine lv_aload_n hx hb dX4_freedom_4 rfl (lv_at hl 0 rfl) ?_
  refine r_get (ci := 4) (v := .ref x.1) (C := RX4) (T := TX4) (N := 6) hx hb hts wiX4_freedom_freedom_X4 hown hK hw 11 rfl rfl 0 (by decide) wmX4_freedom_freedom_0 (fun _ h9 => h9) rfl dX4_freedom_5 ?_
  refine r_get (ci := 0) (v := .int ((skX so rs tx ty).2.1)) (C := RX0) (T := TX0) (N := 4) hx hb hts wiX4_freedom_freedom_X0 hown hK hw 12 rfl rfl 1 (by decide) wmX4_freedom_freedom_1 (fun _ h9 => h9) rfl dX4_freedom_8 ?_
  refine lv_aload_n hx hb dX4_freedom_11 rfl (lv_at hl 0 rfl) ?_
  refine r_get (ci := 4) (v := .ref y.1) (C := RX4) (T := TX4) (N := 6) hx hb hts wiX4_freedom_freedom_X4 hown hK hw 11 rfl rfl 1 (by decide) wmX4_freedom_freedom_2 (fun _ h9 => h9) rfl dX4_freedom_12 ?_
  refine r_get (ci := 0) (v := .int ((skY so rs tx ty).2.1)) (C := RX0) (T := TX0) (N := 4) hx hb hts wiX4_freedom_freedom_X0 hown hK hw 16 rfl rfl 1 (by decide) wmX4_freedom_freedom_1 (fun _ h9 => h9) rfl dX4_freedom_15 ?_
  refine lv_iadd hx hb dX4_freedom_18 ?_
  exact m_iret hx hb hr hlocks hK hw (Nat.le_of_ble_eq_true rfl) (Nat.le_of_ble_eq_true rfl) dX4_freedom_19 (show (((skX so rs tx ty).2.1) + ((skY so rs tx ty).2.1) : Int32) = (skX so rs tx ty).2.1 + (skY so rs tx ty).2.1 by simp only []) rfl

theorem wiX4_volume_volume_X4 : ∀ w ∈ wsX40, w ∈ wsX4_volume := by decide +kernel
theorem wmX4_volume_volume_0 : Cond.fieldLink RX4 29 "PartSketch" "body" "LPartSketch$Body;" ∈ wsX4_volume := by decide +kernel
set_option maxHeartbeats 4000000 in
set_option maxRecDepth 100000 in
/-- volume -/
theorem c_volume (l : Launch) (G : gT) (r : aRw) (rs : tRw) (so : tOb) (x : aAx) (tx : tAx) (y : aAx) (ty : tAx) (b : aBd) (bs : tBd) (o : Nat) (hok : skOk so rs) (hb8 : bs.2.1 ≤ 8) (hbk : bdOk bs.2.2.2.2) (sz : Nat) : MI l yX4_volume wsX4_volume ({ frames := 5, cells := 0, slots := 0, locals := 116 }) G [.ref o] (wRw G r rs ++ (wOb G (o, x.1, y.1, r.1, b.1) so ++ (wAx G x tx ++ (wAx G y ty ++ (wBd G b bs))))) (wRw G r (rs.1, rs.2.1, rs.2.2.1, rs.2.2.2.1, rs.2.2.2.2.1, (skS so rs tx ty), rs.2.2.2.2.2.2) ++ (wOb G (o, x.1, y.1, r.1, b.1) (so.1, skF so) ++ (wAx G x (skX so rs tx ty) ++ (wAx G y (skY so rs tx ty) ++ (wBd G b (skT (skB so rs tx ty bs))))))) sz (skVol (skB so rs tx ty bs)) 0 0 := by
  refine m_of (Qc := fun A9 => (va_Qi (fun (r9 : Int32) (_ : Unit) => r9 = (skVol (skB so rs tx ty bs))) (fun _ t9 => wPost G A9 (wRw G r (rs.1, rs.2.1, rs.2.2.1, rs.2.2.2.1, rs.2.2.2.2.1, (skS so rs tx ty), rs.2.2.2.2.2.2) ++ (wOb G (o, x.1, y.1, r.1, b.1) (so.1, skF so) ++ (wAx G x (skX so rs tx ty) ++ (wAx G y (skY so rs tx ty) ++ (wBd G b (skT (skB so rs tx ty bs))))))) t9) A9)) (cc := cX4_volume) (maxL := 1) (ret := (some .int)) (by decide) rfl (Nat.le_of_ble_eq_true rfl) ?_
  intro p9 e9 s9 m9 A9 be9 mt9 c9 H locs ls hx hb hr hts hown hlocks hin hml hK hA hw hl
  have hl : lv_has ls 1 [(0, .ref o)] := hl
  refine lv_aload_n hx hb dX4_volume_0 rfl (lv_at hl 0 rfl) ?_
  have hwc : wW G A9 s9.heap (([] : va_W) ++ ((wRw G r rs ++ (wOb G (o, x.1, y.1, r.1, b.1) so ++ (wAx G x tx ++ (wAx G y ty ++ (wBd G b bs))))) ++ ([] : va_W))) H locs := hw
  refine r_callv (u := ([] : va_W)) (w := wRw G r rs ++ (wOb G (o, x.1, y.1, r.1, b.1) so ++ (wAx G x tx ++ (wAx G y ty ++ (wBd G b bs))))) (v := ([] : va_W)) (va_runV (As := []) (rest := []) ⟨hx, hb, hml, hown, hts⟩ (c_skmeas l G r rs so x tx y ty b bs o (by first | assumption | omega | decide) (by first | assumption | omega | decide) (by first | assumption | omega | decide) H.size) (cwV 0 hts gX4_volume_X4_measure rfl rfl rfl (by decide +kernel) ⟨Nat.le_of_ble_eq_true rfl, Nat.le_of_ble_eq_true rfl⟩) (r_preV (ci := 4) (q0 := 11) hK hwc rfl rfl rfl) rfl rfl hl.1 rfl (lv_room (Nat.le_of_ble_eq_true rfl)) dX4_volume_1 ⟨Nat.le_of_ble_eq_true rfl, Nat.le_of_ble_eq_true rfl⟩) hwc hA rfl rfl (fun H locs hw => ?_)
  have hw : wW G A9 s9.heap (wRw G r (rs.1, rs.2.1, rs.2.2.1, rs.2.2.2.1, rs.2.2.2.2.1, (skS so rs tx ty), rs.2.2.2.2.2.2) ++ (wOb G (o, x.1, y.1, r.1, b.1) (so.1, skF so) ++ (wAx G x (skX so rs tx ty) ++ (wAx G y (skY so rs tx ty) ++ (wBd G b (skB so rs tx ty bs)))))) H locs := hw
  refine lv_aload_n hx hb dX4_volume_4 rfl (lv_at hl 0 rfl) ?_
  refine r_get (ci := 4) (v := .ref b.1) (C := RX4) (T := TX4) (N := 6) hx hb hts wiX4_volume_volume_X4 hown hK hw 11 rfl rfl 3 (by decide) wmX4_volume_volume_0 (fun _ h9 => h9) rfl dX4_volume_5 ?_
  have hwc : wW G A9 s9.heap ((wRw G r (rs.1, rs.2.1, rs.2.2.1, rs.2.2.2.1, rs.2.2.2.2.1, (skS so rs tx ty), rs.2.2.2.2.2.2) ++ (wOb G (o, x.1, y.1, r.1, b.1) (so.1, skF so) ++ (wAx G x (skX so rs tx ty) ++ (wAx G y (skY so rs tx ty))))) ++ ((wBd G b (skB so rs tx ty bs)) ++ ([] : va_W))) H locs := hw
  refine r_calli (res := (bdWhole (skB so rs tx ty bs))) (u := wRw G r (rs.1, rs.2.1, rs.2.2.1, rs.2.2.2.1, rs.2.2.2.2.1, (skS so rs tx ty), rs.2.2.2.2.2.2) ++ (wOb G (o, x.1, y.1, r.1, b.1) (so.1, skF so) ++ (wAx G x (skX so rs tx ty) ++ (wAx G y (skY so rs tx ty))))) (w := wBd G b (skB so rs tx ty bs)) (v := ([] : va_W)) (va_runV (As := []) (rest := []) ⟨hx, hb, hml, hown, hts⟩ (c_whole l G b (skB so rs tx ty bs) H.size) (cwV 0 hts gX4_volume_X2_wholeCells rfl rfl rfl (by decide +kernel) ⟨Nat.le_of_ble_eq_true rfl, Nat.le_of_ble_eq_true rfl⟩) (r_preV (ci := 2) (q0 := 20) hK hwc rfl rfl rfl) rfl rfl hl.1 rfl (lv_room (Nat.le_of_ble_eq_true rfl)) dX4_volume_8 ⟨Nat.le_of_ble_eq_true rfl, Nat.le_of_ble_eq_true rfl⟩) hwc hA rfl rfl (fun H locs hw => ?_)
  have hw : wW G A9 s9.heap (wRw G r (rs.1, rs.2.1, rs.2.2.1, rs.2.2.2.1, rs.2.2.2.2.1, (skS so rs tx ty), rs.2.2.2.2.2.2) ++ (wOb G (o, x.1, y.1, r.1, b.1) (so.1, skF so) ++ (wAx G x (skX so rs tx ty) ++ (wAx G y (skY so rs tx ty) ++ (wBd G b (skB so rs tx ty bs)))))) H locs := hw
  refine lv_aload_n hx hb dX4_volume_11 rfl (lv_at hl 0 rfl) ?_
  refine r_get (ci := 4) (v := .ref b.1) (C := RX4) (T := TX4) (N := 6) hx hb hts wiX4_volume_volume_X4 hown hK hw 11 rfl rfl 3 (by decide) wmX4_volume_volume_0 (fun _ h9 => h9) rfl dX4_volume_12 ?_
  have hwc : wW G A9 s9.heap ((wRw G r (rs.1, rs.2.1, rs.2.2.1, rs.2.2.2.1, rs.2.2.2.2.1, (skS so rs tx ty), rs.2.2.2.2.2.2) ++ (wOb G (o, x.1, y.1, r.1, b.1) (so.1, skF so) ++ (wAx G x (skX so rs tx ty) ++ (wAx G y (skY so rs tx ty))))) ++ ((wBd G b (skB so rs tx ty bs)) ++ ([] : va_W))) H locs := hw
  refine r_calli (res := (bdTaken (skB so rs tx ty bs))) (u := wRw G r (rs.1, rs.2.1, rs.2.2.1, rs.2.2.2.1, rs.2.2.2.2.1, (skS so rs tx ty), rs.2.2.2.2.2.2) ++ (wOb G (o, x.1, y.1, r.1, b.1) (so.1, skF so) ++ (wAx G x (skX so rs tx ty) ++ (wAx G y (skY so rs tx ty))))) (w := wBd G b (skB so rs tx ty bs)) (v := ([] : va_W)) (va_runV (As := []) (rest := [.int (bdWhole (skB so rs tx ty bs))]) ⟨hx, hb, hml, hown, hts⟩ (c_taken l G b (skB so rs tx ty bs) (by show (bdMeas _ _ bs).2.1 ≤ 8; rw [bdMeas_n]; exact hb8) H.size) (cwV 0 hts gX4_volume_X2_takenCells rfl rfl rfl (by decide +kernel) ⟨Nat.le_of_ble_eq_true rfl, Nat.le_of_ble_eq_true rfl⟩) (r_preV (ci := 2) (q0 := 20) hK hwc rfl rfl rfl) rfl rfl hl.1 rfl (lv_room (Nat.le_of_ble_eq_true rfl)) dX4_volume_15 ⟨Nat.le_of_ble_eq_true rfl, Nat.le_of_ble_eq_true rfl⟩) hwc hA rfl rfl (fun H locs hw => ?_)
  have hw : wW G A9 s9.heap (wRw G r (rs.1, rs.2.1, rs.2.2.1, rs.2.2.2.1, rs.2.2.2.2.1, (skS so rs tx ty), rs.2.2.2.2.2.2) ++ (wOb G (o, x.1, y.1, r.1, b.1) (so.1, skF so) ++ (wAx G x (skX so rs tx ty) ++ (wAx G y (skY so rs tx ty) ++ (wBd G b ((skB so rs tx ty bs).1, (skB so rs tx ty bs).2.1, (bdGs (skB so rs tx ty bs)).2.1, (bdGs (skB so rs tx ty bs)).2.2, (skB so rs tx ty bs).2.2.2.2)))))) H locs := hw
  refine lv_isub hx hb dX4_volume_18 ?_
  exact m_iret hx hb hr hlocks hK hw (Nat.le_of_ble_eq_true rfl) (Nat.le_of_ble_eq_true rfl) dX4_volume_19 (show ((bdWhole (skB so rs tx ty bs)) - (bdTaken (skB so rs tx ty bs)) : Int32) = skVol (skB so rs tx ty bs) by rfl) rfl

theorem wiX4_price_price_X4 : ∀ w ∈ wsX40, w ∈ wsX4_price := by decide +kernel
theorem wmX4_price_price_0 : Cond.fieldLink RX4 29 "PartSketch" "body" "LPartSketch$Body;" ∈ wsX4_price := by decide +kernel
set_option maxHeartbeats 4000000 in
set_option maxRecDepth 100000 in
/-- price -/
theorem c_price (l : Launch) (G : gT) (r : aRw) (rs : tRw) (so : tOb) (x : aAx) (tx : tAx) (y : aAx) (ty : tAx) (b : aBd) (bs : tBd) (o : Nat) (hok : skOk so rs) (hb8 : bs.2.1 ≤ 8) (hbk : bdOk bs.2.2.2.2) (sz : Nat) : MI l yX4_price wsX4_price ({ frames := 5, cells := 0, slots := 0, locals := 116 }) G [.ref o] (wRw G r rs ++ (wOb G (o, x.1, y.1, r.1, b.1) so ++ (wAx G x tx ++ (wAx G y ty ++ (wBd G b bs))))) (wRw G r (rs.1, rs.2.1, rs.2.2.1, rs.2.2.2.1, rs.2.2.2.2.1, (skS so rs tx ty), rs.2.2.2.2.2.2) ++ (wOb G (o, x.1, y.1, r.1, b.1) (so.1, skF so) ++ (wAx G x (skX so rs tx ty) ++ (wAx G y (skY so rs tx ty) ++ (wBd G b (skT (skB so rs tx ty bs))))))) sz (skPri (skB so rs tx ty bs)) 0 0 := by
  refine m_of (Qc := fun A9 => (va_Qi (fun (r9 : Int32) (_ : Unit) => r9 = (skPri (skB so rs tx ty bs))) (fun _ t9 => wPost G A9 (wRw G r (rs.1, rs.2.1, rs.2.2.1, rs.2.2.2.1, rs.2.2.2.2.1, (skS so rs tx ty), rs.2.2.2.2.2.2) ++ (wOb G (o, x.1, y.1, r.1, b.1) (so.1, skF so) ++ (wAx G x (skX so rs tx ty) ++ (wAx G y (skY so rs tx ty) ++ (wBd G b (skT (skB so rs tx ty bs))))))) t9) A9)) (cc := cX4_price) (maxL := 1) (ret := (some .int)) (by decide) rfl (Nat.le_of_ble_eq_true rfl) ?_
  intro p9 e9 s9 m9 A9 be9 mt9 c9 H locs ls hx hb hr hts hown hlocks hin hml hK hA hw hl
  have hl : lv_has ls 1 [(0, .ref o)] := hl
  refine lv_aload_n hx hb dX4_price_0 rfl (lv_at hl 0 rfl) ?_
  have hwc : wW G A9 s9.heap (([] : va_W) ++ ((wRw G r rs ++ (wOb G (o, x.1, y.1, r.1, b.1) so ++ (wAx G x tx ++ (wAx G y ty ++ (wBd G b bs))))) ++ ([] : va_W))) H locs := hw
  refine r_callv (u := ([] : va_W)) (w := wRw G r rs ++ (wOb G (o, x.1, y.1, r.1, b.1) so ++ (wAx G x tx ++ (wAx G y ty ++ (wBd G b bs))))) (v := ([] : va_W)) (va_runV (As := []) (rest := []) ⟨hx, hb, hml, hown, hts⟩ (c_skmeas l G r rs so x tx y ty b bs o (by first | assumption | omega | decide) (by first | assumption | omega | decide) (by first | assumption | omega | decide) H.size) (cwV 0 hts gX4_price_X4_measure rfl rfl rfl (by decide +kernel) ⟨Nat.le_of_ble_eq_true rfl, Nat.le_of_ble_eq_true rfl⟩) (r_preV (ci := 4) (q0 := 11) hK hwc rfl rfl rfl) rfl rfl hl.1 rfl (lv_room (Nat.le_of_ble_eq_true rfl)) dX4_price_1 ⟨Nat.le_of_ble_eq_true rfl, Nat.le_of_ble_eq_true rfl⟩) hwc hA rfl rfl (fun H locs hw => ?_)
  have hw : wW G A9 s9.heap (wRw G r (rs.1, rs.2.1, rs.2.2.1, rs.2.2.2.1, rs.2.2.2.2.1, (skS so rs tx ty), rs.2.2.2.2.2.2) ++ (wOb G (o, x.1, y.1, r.1, b.1) (so.1, skF so) ++ (wAx G x (skX so rs tx ty) ++ (wAx G y (skY so rs tx ty) ++ (wBd G b (skB so rs tx ty bs)))))) H locs := hw
  refine lv_iconst (v := 2) hx hb dX4_price_4 (by decide) ?_
  refine lv_aload_n hx hb dX4_price_5 rfl (lv_at hl 0 rfl) ?_
  refine r_get (ci := 4) (v := .ref b.1) (C := RX4) (T := TX4) (N := 6) hx hb hts wiX4_price_price_X4 hown hK hw 11 rfl rfl 3 (by decide) wmX4_price_price_0 (fun _ h9 => h9) rfl dX4_price_6 ?_
  have hwc : wW G A9 s9.heap ((wRw G r (rs.1, rs.2.1, rs.2.2.1, rs.2.2.2.1, rs.2.2.2.2.1, (skS so rs tx ty), rs.2.2.2.2.2.2) ++ (wOb G (o, x.1, y.1, r.1, b.1) (so.1, skF so) ++ (wAx G x (skX so rs tx ty) ++ (wAx G y (skY so rs tx ty))))) ++ ((wBd G b (skB so rs tx ty bs)) ++ ([] : va_W))) H locs := hw
  refine r_calli (res := (bdWhole (skB so rs tx ty bs))) (u := wRw G r (rs.1, rs.2.1, rs.2.2.1, rs.2.2.2.1, rs.2.2.2.2.1, (skS so rs tx ty), rs.2.2.2.2.2.2) ++ (wOb G (o, x.1, y.1, r.1, b.1) (so.1, skF so) ++ (wAx G x (skX so rs tx ty) ++ (wAx G y (skY so rs tx ty))))) (w := wBd G b (skB so rs tx ty bs)) (v := ([] : va_W)) (va_runV (As := []) (rest := [.int 2]) ⟨hx, hb, hml, hown, hts⟩ (c_whole l G b (skB so rs tx ty bs) H.size) (cwV 0 hts gX4_price_X2_wholeCells rfl rfl rfl (by decide +kernel) ⟨Nat.le_of_ble_eq_true rfl, Nat.le_of_ble_eq_true rfl⟩) (r_preV (ci := 2) (q0 := 20) hK hwc rfl rfl rfl) rfl rfl hl.1 rfl (lv_room (Nat.le_of_ble_eq_true rfl)) dX4_price_9 ⟨Nat.le_of_ble_eq_true rfl, Nat.le_of_ble_eq_true rfl⟩) hwc hA rfl rfl (fun H locs hw => ?_)
  have hw : wW G A9 s9.heap (wRw G r (rs.1, rs.2.1, rs.2.2.1, rs.2.2.2.1, rs.2.2.2.2.1, (skS so rs tx ty), rs.2.2.2.2.2.2) ++ (wOb G (o, x.1, y.1, r.1, b.1) (so.1, skF so) ++ (wAx G x (skX so rs tx ty) ++ (wAx G y (skY so rs tx ty) ++ (wBd G b (skB so rs tx ty bs)))))) H locs := hw
  refine lv_imul hx hb dX4_price_12 ?_
  refine lv_iconst (v := 1) hx hb dX4_price_13 (by decide) ?_
  refine lv_aload_n hx hb dX4_price_14 rfl (lv_at hl 0 rfl) ?_
  refine r_get (ci := 4) (v := .ref b.1) (C := RX4) (T := TX4) (N := 6) hx hb hts wiX4_price_price_X4 hown hK hw 11 rfl rfl 3 (by decide) wmX4_price_price_0 (fun _ h9 => h9) rfl dX4_price_15 ?_
  have hwc : wW G A9 s9.heap ((wRw G r (rs.1, rs.2.1, rs.2.2.1, rs.2.2.2.1, rs.2.2.2.2.1, (skS so rs tx ty), rs.2.2.2.2.2.2) ++ (wOb G (o, x.1, y.1, r.1, b.1) (so.1, skF so) ++ (wAx G x (skX so rs tx ty) ++ (wAx G y (skY so rs tx ty))))) ++ ((wBd G b (skB so rs tx ty bs)) ++ ([] : va_W))) H locs := hw
  refine r_calli (res := (bdTaken (skB so rs tx ty bs))) (u := wRw G r (rs.1, rs.2.1, rs.2.2.1, rs.2.2.2.1, rs.2.2.2.2.1, (skS so rs tx ty), rs.2.2.2.2.2.2) ++ (wOb G (o, x.1, y.1, r.1, b.1) (so.1, skF so) ++ (wAx G x (skX so rs tx ty) ++ (wAx G y (skY so rs tx ty))))) (w := wBd G b (skB so rs tx ty bs)) (v := ([] : va_W)) (va_runV (As := []) (rest := [.int 1, .int (2 * (bdWhole (skB so rs tx ty bs)))]) ⟨hx, hb, hml, hown, hts⟩ (c_taken l G b (skB so rs tx ty bs) (by show (bdMeas _ _ bs).2.1 ≤ 8; rw [bdMeas_n]; exact hb8) H.size) (cwV 0 hts gX4_price_X2_takenCells rfl rfl rfl (by decide +kernel) ⟨Nat.le_of_ble_eq_true rfl, Nat.le_of_ble_eq_true rfl⟩) (r_preV (ci := 2) (q0 := 20) hK hwc rfl rfl rfl) rfl rfl hl.1 rfl (lv_room (Nat.le_of_ble_eq_true rfl)) dX4_price_18 ⟨Nat.le_of_ble_eq_true rfl, Nat.le_of_ble_eq_true rfl⟩) hwc hA rfl rfl (fun H locs hw => ?_)
  have hw : wW G A9 s9.heap (wRw G r (rs.1, rs.2.1, rs.2.2.1, rs.2.2.2.1, rs.2.2.2.2.1, (skS so rs tx ty), rs.2.2.2.2.2.2) ++ (wOb G (o, x.1, y.1, r.1, b.1) (so.1, skF so) ++ (wAx G x (skX so rs tx ty) ++ (wAx G y (skY so rs tx ty) ++ (wBd G b ((skB so rs tx ty bs).1, (skB so rs tx ty bs).2.1, (bdGs (skB so rs tx ty bs)).2.1, (bdGs (skB so rs tx ty bs)).2.2, (skB so rs tx ty bs).2.2.2.2)))))) H locs := hw
  refine lv_imul hx hb dX4_price_21 ?_
  refine lv_iadd hx hb dX4_price_22 ?_
  refine lv_bipush (v := 100) hx hb dX4_price_23 (by decide) ?_
  refine lv_aload_n hx hb dX4_price_25 rfl (lv_at hl 0 rfl) ?_
  refine r_get (ci := 4) (v := .ref b.1) (C := RX4) (T := TX4) (N := 6) hx hb hts wiX4_price_price_X4 hown hK hw 11 rfl rfl 3 (by decide) wmX4_price_price_0 (fun _ h9 => h9) rfl dX4_price_26 ?_
  have hwc : wW G A9 s9.heap ((wRw G r (rs.1, rs.2.1, rs.2.2.1, rs.2.2.2.1, rs.2.2.2.2.1, (skS so rs tx ty), rs.2.2.2.2.2.2) ++ (wOb G (o, x.1, y.1, r.1, b.1) (so.1, skF so) ++ (wAx G x (skX so rs tx ty) ++ (wAx G y (skY so rs tx ty))))) ++ ((wBd G b ((skB so rs tx ty bs).1, (skB so rs tx ty bs).2.1, (bdGs (skB so rs tx ty bs)).2.1, (bdGs (skB so rs tx ty bs)).2.2, (skB so rs tx ty bs).2.2.2.2)) ++ ([] : va_W))) H locs := hw
  refine r_calli (res := (bitc (ddK ((skB so rs tx ty bs).2.2.2.2) ((skB so rs tx ty bs).2.1)))) (u := wRw G r (rs.1, rs.2.1, rs.2.2.1, rs.2.2.2.1, rs.2.2.2.2.1, (skS so rs tx ty), rs.2.2.2.2.2.2) ++ (wOb G (o, x.1, y.1, r.1, b.1) (so.1, skF so) ++ (wAx G x (skX so rs tx ty) ++ (wAx G y (skY so rs tx ty))))) (w := wBd G b ((skB so rs tx ty bs).1, (skB so rs tx ty bs).2.1, (bdGs (skB so rs tx ty bs)).2.1, (bdGs (skB so rs tx ty bs)).2.2, (skB so rs tx ty bs).2.2.2.2)) (v := ([] : va_W)) (va_runV (As := []) (rest := [.int 100, .int ((2 * (bdWhole (skB so rs tx ty bs))) + (1 * (bdTaken (skB so rs tx ty bs))))]) ⟨hx, hb, hml, hown, hts⟩ (c_depths l G b ((skB so rs tx ty bs).1, (skB so rs tx ty bs).2.1, (bdGs (skB so rs tx ty bs)).2.1, (bdGs (skB so rs tx ty bs)).2.2, (skB so rs tx ty bs).2.2.2.2) (by show (bdMeas _ _ bs).2.1 ≤ 8; rw [bdMeas_n]; exact hb8) H.size) (cwV 0 hts gX4_price_X2_differentDepths rfl rfl rfl (by decide +kernel) ⟨Nat.le_of_ble_eq_true rfl, Nat.le_of_ble_eq_true rfl⟩) (r_preV (ci := 2) (q0 := 20) hK hwc rfl rfl rfl) rfl rfl hl.1 rfl (lv_room (Nat.le_of_ble_eq_true rfl)) dX4_price_29 ⟨Nat.le_of_ble_eq_true rfl, Nat.le_of_ble_eq_true rfl⟩) hwc hA rfl rfl (fun H locs hw => ?_)
  have hw : wW G A9 s9.heap (wRw G r (rs.1, rs.2.1, rs.2.2.1, rs.2.2.2.1, rs.2.2.2.2.1, (skS so rs tx ty), rs.2.2.2.2.2.2) ++ (wOb G (o, x.1, y.1, r.1, b.1) (so.1, skF so) ++ (wAx G x (skX so rs tx ty) ++ (wAx G y (skY so rs tx ty) ++ (wBd G b ((skB so rs tx ty bs).1, (skB so rs tx ty bs).2.1, (bdGs (skB so rs tx ty bs)).2.1, (bdGs (skB so rs tx ty bs)).2.2, (skB so rs tx ty bs).2.2.2.2)))))) H locs := hw
  refine lv_imul hx hb dX4_price_32 ?_
  refine lv_iadd hx hb dX4_price_33 ?_
  exact m_iret hx hb hr hlocks hK hw (Nat.le_of_ble_eq_true rfl) (Nat.le_of_ble_eq_true rfl) dX4_price_34 (show (((2 * (bdWhole (skB so rs tx ty bs))) + (1 * (bdTaken (skB so rs tx ty bs)))) + (100 * (bitc (ddK ((skB so rs tx ty bs).2.2.2.2) ((skB so rs tx ty bs).2.1)))) : Int32) = skPri (skB so rs tx ty bs) by rfl) rfl
