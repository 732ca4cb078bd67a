/-! PartSketch$Axis: what its methods compute, written as they do it -/
theorem ct_ge {k n : Nat} (hk : k < 2 ^ 31) (hn : n < 2 ^ 31) (c : nI n ≤ nI k) : n ≤ k := (nI_leI hn hk).mp c
theorem ct_nge {k n : Nat} (hk : k < 2 ^ 31) (hn : n < 2 ^ 31) (c : ¬ nI n ≤ nI k) : k < n := Nat.not_le.mp fun h => c ((nI_leI hn hk).mpr h)
def axPl (x : tAx) (i : Nat) : Int32 := x.2.2.2 i - x.2.2.2 16
def axJudge (x : tAx) (i k : Nat) (d : Int32) : Int32 := if x.2.2.1 i = x.2.2.1 k then (if x.2.2.2 k - x.2.2.2 i = d then 1 else 2) else 0
def axLooseK (x : tAx) : Nat → tAx
  | 0 => x
  | k + 1 => ((axLooseK x k).1, (axLooseK x k).2.1, upd (axLooseK x k).2.2.1 k (nI k), upd (axLooseK x k).2.2.2 k 0)
def axJoinK (x : tAx) (kept joined sh : Int32) : Nat → tAx
  | 0 => x
  | k + 1 => if (axJoinK x kept joined sh k).2.2.1 k = joined then ((axJoinK x kept joined sh k).1, (axJoinK x kept joined sh k).2.1, upd (axJoinK x kept joined sh k).2.2.1 k kept, upd (axJoinK x kept joined sh k).2.2.2 k ((axJoinK x kept joined sh k).2.2.2 k + sh)) else axJoinK x kept joined sh k
def axJoin (x : tAx) (i k : Nat) (d : Int32) : tAx := axJoinK x (x.2.2.1 i) (x.2.2.1 k) (x.2.2.2 i + d - x.2.2.2 k) 17
def axPinK (x : tAx) : Nat → tAx
  | 0 => (x.1, 0, x.2.2.1, x.2.2.2)
  | k + 1 => if (axPinK x k).2.2.1 k = (axPinK x k).2.2.1 16 then axPinK x k else axJoin ((axPinK x k).1, (axPinK x k).2.1 + 1, (axPinK x k).2.2.1, (axPinK x k).2.2.2) 16 k ((axPinK x k).1 k)

theorem wiX0_placeOf_placeOf_X0 : ∀ w ∈ wsX00, w ∈ wsX0_placeOf := by decide +kernel
theorem wmX0_placeOf_placeOf_0 : Cond.fieldLink RX0 18 "PartSketch$Axis" "place" "[I" ∈ wsX0_placeOf := by decide +kernel
set_option maxHeartbeats 4000000 in
set_option maxRecDepth 100000 in
/-- Axis.placeOf: the place less the ground -/
theorem c_placeOf (l : Launch) (G : gT) (a : aAx) (x : tAx) (i : Nat) (hi : i < 17) (sz : Nat) : MI l yX0_placeOf wsX0_placeOf ({ frames := 0, cells := 0, slots := 0, locals := 0 }) G [.ref a.1, .int (nI i)] (wAx G a x) (wAx G a x) sz (axPl x i) 0 0 := by
  refine m_of (Qc := fun A9 => (va_Qi (fun (r9 : Int32) (_ : Unit) => r9 = (axPl x i)) (fun _ t9 => wPost G A9 (wAx G a x) t9) A9)) (cc := cX0_placeOf) (maxL := 2) (ret := (some .int)) (by decide) rfl (Nat.le_of_ble_eq_true rfl) ?_
  intro p9 e9 s9 m9 A9 be9 mt9 c9 H locs ls hx hb hr hts hown hlocks hin hml hK hA hw hl
  have hl : lv_has ls 2 [(0, .ref a.1), (1, .int (nI i))] := hl
  refine lv_aload_n hx hb dX0_placeOf_0 rfl (lv_at hl 0 rfl) ?_
  refine r_get (ci := 0) (v := .ref a.2.2.2) (C := RX0) (T := TX0) (N := 4) hx hb hts wiX0_placeOf_placeOf_X0 hown hK hw 0 rfl rfl 3 (by decide) wmX0_placeOf_placeOf_0 (fun _ h9 => h9) rfl dX0_placeOf_1 ?_
  refine lv_iload_n hx hb dX0_placeOf_4 rfl (lv_at hl 1 rfl) ?_
  refine r_iald (v := x.2.2.2 i) hx hb hK hw 3 rfl i rfl (by omega) (by decide) rfl dX0_placeOf_5 ?_
  refine lv_aload_n hx hb dX0_placeOf_6 rfl (lv_at hl 0 rfl) ?_
  refine r_get (ci := 0) (v := .ref a.2.2.2) (C := RX0) (T := TX0) (N := 4) hx hb hts wiX0_placeOf_placeOf_X0 hown hK hw 0 rfl rfl 3 (by decide) wmX0_placeOf_placeOf_0 (fun _ h9 => h9) rfl dX0_placeOf_7 ?_
  refine lv_bipush (v := 16) hx hb dX0_placeOf_10 (by decide) ?_
  refine r_iald (v := x.2.2.2 16) hx hb hK hw 3 rfl 16 rfl (by omega) (by decide) rfl dX0_placeOf_12 ?_
  refine lv_isub hx hb dX0_placeOf_13 ?_
  exact m_iret hx hb hr hlocks hK hw (Nat.le_of_ble_eq_true rfl) (Nat.le_of_ble_eq_true rfl) dX0_placeOf_14 (show ((x.2.2.2 i) - (x.2.2.2 16) : Int32) = axPl x i by first | rfl | (simp only []; first | done | rfl)) rfl

theorem wiX0_judge_judge_X0 : ∀ w ∈ wsX00, w ∈ wsX0_judge := by decide +kernel
theorem wmX0_judge_judge_0 : Cond.fieldLink RX0 15 "PartSketch$Axis" "group" "[I" ∈ wsX0_judge := by decide +kernel
theorem wmX0_judge_judge_1 : Cond.fieldLink RX0 18 "PartSketch$Axis" "place" "[I" ∈ wsX0_judge := by decide +kernel
set_option maxHeartbeats 4000000 in
set_option maxRecDepth 100000 in
/-- Axis.judge -/
theorem c_judge (l : Launch) (G : gT) (a : aAx) (x : tAx) (i : Nat) (k : Nat) (d : Int32) (hi : i < 17) (hk : k < 17) (sz : Nat) : MI l yX0_judge wsX0_judge ({ frames := 0, cells := 0, slots := 0, locals := 0 }) G [.ref a.1, .int (nI i), .int (nI k), .int d] (wAx G a x) (wAx G a x) sz (axJudge x i k d) 0 0 := by
  refine m_of (Qc := fun A9 => (va_Qi (fun (r9 : Int32) (_ : Unit) => r9 = (axJudge x i k d)) (fun _ t9 => wPost G A9 (wAx G a x) t9) A9)) (cc := cX0_judge) (maxL := 4) (ret := (some .int)) (by decide) rfl (Nat.le_of_ble_eq_true rfl) ?_
  intro p9 e9 s9 m9 A9 be9 mt9 c9 H locs ls hx hb hr hts hown hlocks hin hml hK hA hw hl
  have hl : lv_has ls 4 [(0, .ref a.1), (1, .int (nI i)), (2, .int (nI k)), (3, .int d)] := hl
  refine lv_aload_n hx hb dX0_judge_0 rfl (lv_at hl 0 rfl) ?_
  refine r_get (ci := 0) (v := .ref a.2.2.1) (C := RX0) (T := TX0) (N := 4) hx hb hts wiX0_judge_judge_X0 hown hK hw 0 rfl rfl 2 (by decide) wmX0_judge_judge_0 (fun _ h9 => h9) rfl dX0_judge_1 ?_
  refine lv_iload_n hx hb dX0_judge_4 rfl (lv_at hl 1 rfl) ?_
  refine r_iald (v := x.2.2.1 i) hx hb hK hw 2 rfl i rfl (by omega) (by decide) rfl dX0_judge_5 ?_
  refine lv_aload_n hx hb dX0_judge_6 rfl (lv_at hl 0 rfl) ?_
  refine r_get (ci := 0) (v := .ref a.2.2.1) (C := RX0) (T := TX0) (N := 4) hx hb hts wiX0_judge_judge_X0 hown hK hw 0 rfl rfl 2 (by decide) wmX0_judge_judge_0 (fun _ h9 => h9) rfl dX0_judge_7 ?_
  refine lv_iload_n hx hb dX0_judge_10 rfl (lv_at hl 2 rfl) ?_
  refine r_iald (v := x.2.2.1 k) hx hb hK hw 2 rfl k rfl (by omega) (by decide) rfl dX0_judge_11 ?_
  refine lv_icmp_eq (tgt := 17) hx hb dX0_judge_12 (by decide) (fun c_12 => ?_) (fun c_12 => ?_)
  · refine lv_aload_n hx hb dX0_judge_17 rfl (lv_at hl 0 rfl) ?_
    refine r_get (ci := 0) (v := .ref a.2.2.2) (C := RX0) (T := TX0) (N := 4) hx hb hts wiX0_judge_judge_X0 hown hK hw 0 rfl rfl 3 (by decide) wmX0_judge_judge_1 (fun _ h9 => h9) rfl dX0_judge_18 ?_
    refine lv_iload_n hx hb dX0_judge_21 rfl (lv_at hl 2 rfl) ?_
    refine r_iald (v := x.2.2.2 k) hx hb hK hw 3 rfl k rfl (by omega) (by decide) rfl dX0_judge_22 ?_
    refine lv_aload_n hx hb dX0_judge_23 rfl (lv_at hl 0 rfl) ?_
    refine r_get (ci := 0) (v := .ref a.2.2.2) (C := RX0) (T := TX0) (N := 4) hx hb hts wiX0_judge_judge_X0 hown hK hw 0 rfl rfl 3 (by decide) wmX0_judge_judge_1 (fun _ h9 => h9) rfl dX0_judge_24 ?_
    refine lv_iload_n hx hb dX0_judge_27 rfl (lv_at hl 1 rfl) ?_
    refine r_iald (v := x.2.2.2 i) hx hb hK hw 3 rfl i rfl (by omega) (by decide) rfl dX0_judge_28 ?_
    refine lv_isub hx hb dX0_judge_29 ?_
    refine lv_iload_n hx hb dX0_judge_30 rfl (lv_at hl 3 rfl) ?_
    refine lv_icmp_ne (tgt := 38) hx hb dX0_judge_31 (by decide) (fun c_31 => ?_) (fun c_31 => ?_)
    · refine lv_iconst (v := 2) hx hb dX0_judge_38 (by decide) ?_
      exact m_iret hx hb hr hlocks hK hw (Nat.le_of_ble_eq_true rfl) (Nat.le_of_ble_eq_true rfl) dX0_judge_39 (show (2 : Int32) = axJudge x i k d by first | rfl | (simp only [axJudge, if_pos c_12, if_neg c_31]; first | done | rfl)) rfl
    · refine lv_iconst (v := 1) hx hb dX0_judge_34 (by decide) ?_
      refine lv_goto (tgt := 39) hx hb dX0_judge_35 (by decide) ?_
      exact m_iret hx hb hr hlocks hK hw (Nat.le_of_ble_eq_true rfl) (Nat.le_of_ble_eq_true rfl) dX0_judge_39 (show (1 : Int32) = axJudge x i k d by first | rfl | (simp only [axJudge, if_pos c_12, if_pos c_31]; first | done | rfl)) rfl
  · refine lv_iconst (v := 0) hx hb dX0_judge_15 (by decide) ?_
    exact m_iret hx hb hr hlocks hK hw (Nat.le_of_ble_eq_true rfl) (Nat.le_of_ble_eq_true rfl) dX0_judge_16 (show (0 : Int32) = axJudge x i k d by first | rfl | (simp only [axJudge, if_neg c_12]; first | done | rfl)) rfl

theorem wiX0_loosen_loosen_X0 : ∀ w ∈ wsX00, w ∈ wsX0_loosen := by decide +kernel
theorem wmX0_loosen_loosen_0 : Cond.fieldLink RX0 15 "PartSketch$Axis" "group" "[I" ∈ wsX0_loosen := by decide +kernel
theorem wmX0_loosen_loosen_1 : Cond.fieldLink RX0 18 "PartSketch$Axis" "place" "[I" ∈ wsX0_loosen := by decide +kernel
set_option maxHeartbeats 4000000 in
set_option maxRecDepth 100000 in
/-- Axis.loosen: each its own group -/
theorem c_loosen (l : Launch) (G : gT) (a : aAx) (x : tAx) (sz : Nat) : MV l yX0_loosen wsX0_loosen ({ frames := 0, cells := 0, slots := 0, locals := 0 }) G [.ref a.1] (wAx G a x) (wAx G a (axLooseK x 17)) sz 0 0 := by
  refine m_of (Qc := fun A9 => (va_Qv (fun (_ : Unit) => True) (fun _ t9 => wPost G A9 (wAx G a (axLooseK x 17)) t9) A9)) (cc := cX0_loosen) (maxL := 2) (ret := none) (by decide) rfl (Nat.le_of_ble_eq_true rfl) ?_
  intro p9 e9 s9 m9 A9 be9 mt9 c9 H locs ls hx hb hr hts hown hlocks hin hml hK hA hw hl
  have hl : lv_has ls 2 [(0, .ref a.1)] := hl
  refine lv_iconst (v := 0) hx hb dX0_loosen_0 (by decide) ?_
  refine lv_istore_n (lv' := [(1, .int 0), (0, .ref a.1)]) hx hb dX0_loosen_1 rfl hl (by decide) rfl (fun ls hl => ?_)
  have loop_2 : ∀ (nf : Nat) (k : Nat) (hnf : (17 - k) < nf) (hk : k ≤ 17), ∀ (H : Heap) (locs : List Loc) (ls : Array Slot), wW G A9 s9.heap (wAx G a (axLooseK x k)) H locs → lv_has ls 2 [(0, .ref a.1), (1, .int (nI k))] → W p9 l e9 ({ frames := 0, cells := 0, slots := 0, locals := 0 }) s9 m9 [.ref a.1].toArray be9 mt9 c9 H locs 0 0 (MQ be9 (va_Qv (fun (_ : Unit) => True) (fun _ t9 => wPost G A9 (wAx G a (axLooseK x 17)) t9) A9) [.ref a.1].toArray s9 0 0 A9) (F0 m9 2 ls []) := by
    intro nf
    induction nf with
    | zero => intro k hnf hk; exact absurd hnf (Nat.not_lt_zero _)
    | succ nf ih_2 =>
      intro k hnf hk H locs ls hw hl
      refine lv_iload_n hx hb dX0_loosen_2 rfl (lv_at hl 1 rfl) ?_
      refine lv_aload_n hx hb dX0_loosen_3 rfl (lv_at hl 0 rfl) ?_
      refine r_get (ci := 0) (v := .ref a.2.2.1) (C := RX0) (T := TX0) (N := 4) hx hb hts wiX0_loosen_loosen_X0 hown hK hw 0 rfl rfl 2 (by decide) wmX0_loosen_loosen_0 (fun _ h9 => h9) rfl dX0_loosen_4 ?_
      refine va_alen (v := 17) hx hb hK hw.1 2 0 rfl rfl rfl dX0_loosen_7 ?_
      refine lv_icmp_ge (tgt := 31) hx hb dX0_loosen_8 (by decide) (fun c_8 => ?_) (fun c_8 => ?_)
      · have hx_8 : 17 ≤ k := ct_ge (k := k) (n := 17) (by omega) (by omega) c_8
        exact m_vret hx hb hr hlocks hK hw (Nat.le_of_ble_eq_true rfl) (Nat.le_of_ble_eq_true rfl) dX0_loosen_31 (show wAx G a (axLooseK x k) = wAx G a (axLooseK x 17) by rw [show k = 17 by omega])
      · have hc_8 : k < 17 := ct_nge (k := k) (n := 17) (by omega) (by omega) c_8
        refine lv_aload_n hx hb dX0_loosen_11 rfl (lv_at hl 0 rfl) ?_
        refine r_get (ci := 0) (v := .ref a.2.2.1) (C := RX0) (T := TX0) (N := 4) hx hb hts wiX0_loosen_loosen_X0 hown hK hw 0 rfl rfl 2 (by decide) wmX0_loosen_loosen_0 (fun _ h9 => h9) rfl dX0_loosen_12 ?_
        refine lv_iload_n hx hb dX0_loosen_15 rfl (lv_at hl 1 rfl) ?_
        refine lv_iload_n hx hb dX0_loosen_16 rfl (lv_at hl 1 rfl) ?_
        refine r_iast hx hb hK hw 2 rfl k rfl (by omega) (by decide) dX0_loosen_17 (ws' := wAx G a ((axLooseK x k).1, (axLooseK x k).2.1, (upd ((axLooseK x k).2.2.1) k (nI k)), (axLooseK x k).2.2.2)) rfl (fun H locs hw => ?_)
        refine lv_aload_n hx hb dX0_loosen_18 rfl (lv_at hl 0 rfl) ?_
        refine r_get (ci := 0) (v := .ref a.2.2.2) (C := RX0) (T := TX0) (N := 4) hx hb hts wiX0_loosen_loosen_X0 hown hK hw 0 rfl rfl 3 (by decide) wmX0_loosen_loosen_1 (fun _ h9 => h9) rfl dX0_loosen_19 ?_
        refine lv_iload_n hx hb dX0_loosen_22 rfl (lv_at hl 1 rfl) ?_
        refine lv_iconst (v := 0) hx hb dX0_loosen_23 (by decide) ?_
        refine r_iast hx hb hK hw 3 rfl k rfl (by omega) (by decide) dX0_loosen_24 (ws' := wAx G a ((axLooseK x k).1, (axLooseK x k).2.1, (upd ((axLooseK x k).2.2.1) k (nI k)), (upd ((axLooseK x k).2.2.2) k 0))) rfl (fun H locs hw => ?_)
        refine lv_iinc (v := nI (k + 1)) (lv' := [(1, .int (nI (k + 1))), (0, .ref a.1)]) hx hb dX0_loosen_25 hl (k := 1) rfl (nI_add k 1) (by decide) rfl (fun ls hl => ?_)
        refine lv_goto (tgt := 2) hx hb dX0_loosen_28 (by decide) ?_
        exact ih_2 (k + 1) (by omega) (by first | assumption | omega | rfl) _ _ _ (wW.eq (show wAx G a ((axLooseK x k).1, (axLooseK x k).2.1, (upd ((axLooseK x k).2.2.1) k (nI k)), (upd ((axLooseK x k).2.2.2) k 0)) = wAx G a (axLooseK x (k + 1)) from rfl) hw) (lv_sub hl [1, 0] rfl)
  exact loop_2 ((17 - 0) + 1) 0 (Nat.lt_succ_self _) (by first | assumption | omega | rfl) _ _ _ (wW.eq (show wAx G a x = wAx G a (axLooseK x 0) from rfl) hw) (lv_sub hl [1, 0] rfl)

theorem wiX0_join_join_X0 : ∀ w ∈ wsX00, w ∈ wsX0_join := by decide +kernel
theorem wmX0_join_join_0 : Cond.fieldLink RX0 15 "PartSketch$Axis" "group" "[I" ∈ wsX0_join := by decide +kernel
theorem wmX0_join_join_1 : Cond.fieldLink RX0 18 "PartSketch$Axis" "place" "[I" ∈ wsX0_join := by decide +kernel
set_option maxHeartbeats 4000000 in
set_option maxRecDepth 100000 in
/-- Axis.join -/
theorem c_join (l : Launch) (G : gT) (a : aAx) (x : tAx) (i : Nat) (j : Nat) (d : Int32) (hi : i < 17) (hj : j < 17) (sz : Nat) : MV l yX0_join wsX0_join ({ frames := 0, cells := 0, slots := 0, locals := 0 }) G [.ref a.1, .int (nI i), .int (nI j), .int d] (wAx G a x) (wAx G a (axJoin x i j d)) sz 0 0 := by
  refine m_of (Qc := fun A9 => (va_Qv (fun (_ : Unit) => True) (fun _ t9 => wPost G A9 (wAx G a (axJoin x i j d)) t9) A9)) (cc := cX0_join) (maxL := 8) (ret := none) (by decide) rfl (Nat.le_of_ble_eq_true rfl) ?_
  intro p9 e9 s9 m9 A9 be9 mt9 c9 H locs ls hx hb hr hts hown hlocks hin hml hK hA hw hl
  have hl : lv_has ls 8 [(0, .ref a.1), (1, .int (nI i)), (2, .int (nI j)), (3, .int d)] := hl
  refine lv_aload_n hx hb dX0_join_0 rfl (lv_at hl 0 rfl) ?_
  refine r_get (ci := 0) (v := .ref a.2.2.1) (C := RX0) (T := TX0) (N := 4) hx hb hts wiX0_join_join_X0 hown hK hw 0 rfl rfl 2 (by decide) wmX0_join_join_0 (fun _ h9 => h9) rfl dX0_join_1 ?_
  refine lv_iload_n hx hb dX0_join_4 rfl (lv_at hl 1 rfl) ?_
  refine r_iald (v := x.2.2.1 i) hx hb hK hw 2 rfl i rfl (by omega) (by decide) rfl dX0_join_5 ?_
  refine lv_istore (lv' := [(4, .int (x.2.2.1 i)), (0, .ref a.1), (1, .int (nI i)), (2, .int (nI j)), (3, .int d)]) hx hb dX0_join_6 hl (by decide) rfl (fun ls hl => ?_)
  refine lv_aload_n hx hb dX0_join_8 rfl (lv_at hl 1 rfl) ?_
  refine r_get (ci := 0) (v := .ref a.2.2.1) (C := RX0) (T := TX0) (N := 4) hx hb hts wiX0_join_join_X0 hown hK hw 0 rfl rfl 2 (by decide) wmX0_join_join_0 (fun _ h9 => h9) rfl dX0_join_9 ?_
  refine lv_iload_n hx hb dX0_join_12 rfl (lv_at hl 3 rfl) ?_
  refine r_iald (v := x.2.2.1 j) hx hb hK hw 2 rfl j rfl (by omega) (by decide) rfl dX0_join_13 ?_
  refine lv_istore (lv' := [(5, .int (x.2.2.1 j)), (4, .int (x.2.2.1 i)), (0, .ref a.1), (1, .int (nI i)), (2, .int (nI j)), (3, .int d)]) hx hb dX0_join_14 hl (by decide) rfl (fun ls hl => ?_)
  refine lv_aload_n hx hb dX0_join_16 rfl (lv_at hl 2 rfl) ?_
  refine r_get (ci := 0) (v := .ref a.2.2.2) (C := RX0) (T := TX0) (N := 4) hx hb hts wiX0_join_join_X0 hown hK hw 0 rfl rfl 3 (by decide) wmX0_join_join_1 (fun _ h9 => h9) rfl dX0_join_17 ?_
  refine lv_iload_n hx hb dX0_join_20 rfl (lv_at hl 3 rfl) ?_
  refine r_iald (v := x.2.2.2 i) hx hb hK hw 3 rfl i rfl (by omega) (by decide) rfl dX0_join_21 ?_
  refine lv_iload_n hx hb dX0_join_22 rfl (lv_at hl 5 rfl) ?_
  refine lv_iadd hx hb dX0_join_23 ?_
  refine lv_aload_n hx hb dX0_join_24 rfl (lv_at hl 2 rfl) ?_
  refine r_get (ci := 0) (v := .ref a.2.2.2) (C := RX0) (T := TX0) (N := 4) hx hb hts wiX0_join_join_X0 hown hK hw 0 rfl rfl 3 (by decide) wmX0_join_join_1 (fun _ h9 => h9) rfl dX0_join_25 ?_
  refine lv_iload_n hx hb dX0_join_28 rfl (lv_at hl 4 rfl) ?_
  refine r_iald (v := x.2.2.2 j) hx hb hK hw 3 rfl j rfl (by omega) (by decide) rfl dX0_join_29 ?_
  refine lv_isub hx hb dX0_join_30 ?_
  refine lv_istore (lv' := [(6, .int (((x.2.2.2 i) + d) - (x.2.2.2 j))), (5, .int (x.2.2.1 j)), (4, .int (x.2.2.1 i)), (0, .ref a.1), (1, .int (nI i)), (2, .int (nI j)), (3, .int d)]) hx hb dX0_join_31 hl (by decide) rfl (fun ls hl => ?_)
  refine lv_iconst (v := 0) hx hb dX0_join_33 (by decide) ?_
  refine lv_istore (lv' := [(7, .int 0), (6, .int (((x.2.2.2 i) + d) - (x.2.2.2 j))), (5, .int (x.2.2.1 j)), (4, .int (x.2.2.1 i)), (0, .ref a.1), (1, .int (nI i)), (2, .int (nI j)), (3, .int d)]) hx hb dX0_join_34 hl (by decide) rfl (fun ls hl => ?_)
  have loop_36 : ∀ (nf : Nat) (k : Nat) (hnf : (17 - k) < nf) (hk : k ≤ 17), ∀ (H : Heap) (locs : List Loc) (ls : Array Slot), wW G A9 s9.heap (wAx G a (axJoinK x (x.2.2.1 i) (x.2.2.1 j) (x.2.2.2 i + d - x.2.2.2 j) k)) H locs → lv_has ls 8 [(0, .ref a.1), (1, .int (nI i)), (2, .int (nI j)), (3, .int d), (4, .int (x.2.2.1 i)), (5, .int (x.2.2.1 j)), (6, .int (((x.2.2.2 i) + d) - (x.2.2.2 j))), (7, .int (nI k))] → W p9 l e9 ({ frames := 0, cells := 0, slots := 0, locals := 0 }) s9 m9 [.ref a.1, .int (nI i), .int (nI j), .int d].toArray be9 mt9 c9 H locs 0 0 (MQ be9 (va_Qv (fun (_ : Unit) => True) (fun _ t9 => wPost G A9 (wAx G a (axJoin x i j d)) t9) A9) [.ref a.1, .int (nI i), .int (nI j), .int d].toArray s9 0 0 A9) (F0 m9 36 ls []) := by
    intro nf
    induction nf with
    | zero => intro k hnf hk; exact absurd hnf (Nat.not_lt_zero _)
    | succ nf ih_36 =>
      intro k hnf hk H locs ls hw hl
      refine lv_iload hx hb dX0_join_36 (lv_at hl 7 rfl) ?_
      refine lv_aload_n hx hb dX0_join_38 rfl (lv_at hl 0 rfl) ?_
      refine r_get (ci := 0) (v := .ref a.2.2.1) (C := RX0) (T := TX0) (N := 4) hx hb hts wiX0_join_join_X0 hown hK hw 0 rfl rfl 2 (by decide) wmX0_join_join_0 (fun _ h9 => h9) rfl dX0_join_39 ?_
      refine va_alen (v := 17) hx hb hK hw.1 2 0 rfl rfl rfl dX0_join_42 ?_
      refine lv_icmp_ge (tgt := 85) hx hb dX0_join_43 (by decide) (fun c_43 => ?_) (fun c_43 => ?_)
      · have hx_43 : 17 ≤ k := ct_ge (k := k) (n := 17) (by omega) (by omega) c_43
        exact m_vret hx hb hr hlocks hK hw (Nat.le_of_ble_eq_true rfl) (Nat.le_of_ble_eq_true rfl) dX0_join_85 (show wAx G a (axJoinK x (x.2.2.1 i) (x.2.2.1 j) (x.2.2.2 i + d - x.2.2.2 j) k) = wAx G a (axJoin x i j d) by rw [show k = 17 by omega]; rfl)
      · have hc_43 : k < 17 := ct_nge (k := k) (n := 17) (by omega) (by omega) c_43
        refine lv_aload_n hx hb dX0_join_46 rfl (lv_at hl 0 rfl) ?_
        refine r_get (ci := 0) (v := .ref a.2.2.1) (C := RX0) (T := TX0) (N := 4) hx hb hts wiX0_join_join_X0 hown hK hw 0 rfl rfl 2 (by decide) wmX0_join_join_0 (fun _ h9 => h9) rfl dX0_join_47 ?_
        refine lv_iload hx hb dX0_join_50 (lv_at hl 7 rfl) ?_
        refine r_iald (v := ((axJoinK x (x.2.2.1 i) (x.2.2.1 j) (x.2.2.2 i + d - x.2.2.2 j) k).2.2.1) k) hx hb hK hw 2 rfl k rfl (by omega) (by decide) rfl dX0_join_52 ?_
        refine lv_iload hx hb dX0_join_53 (lv_at hl 5 rfl) ?_
        refine lv_icmp_ne (tgt := 79) hx hb dX0_join_55 (by decide) (fun c_55 => ?_) (fun c_55 => ?_)
        · refine lv_iinc (v := nI (k + 1)) (lv' := [(7, .int (nI (k + 1))), (0, .ref a.1), (1, .int (nI i)), (2, .int (nI j)), (3, .int d), (4, .int (x.2.2.1 i)), (5, .int (x.2.2.1 j)), (6, .int (((x.2.2.2 i) + d) - (x.2.2.2 j)))]) hx hb dX0_join_79 hl (k := 7) rfl (nI_add k 1) (by decide) rfl (fun ls hl => ?_)
          refine lv_goto (tgt := 36) hx hb dX0_join_82 (by decide) ?_
          exact ih_36 (k + 1) (by omega) (by first | assumption | omega | rfl) _ _ _ (wW.eq (show wAx G a (axJoinK x (x.2.2.1 i) (x.2.2.1 j) (x.2.2.2 i + d - x.2.2.2 j) k) = wAx G a (axJoinK x (x.2.2.1 i) (x.2.2.1 j) (x.2.2.2 i + d - x.2.2.2 j) (k + 1)) from (by simp only [axJoinK, if_neg c_55])) hw) (lv_sub hl [1, 2, 3, 4, 5, 6, 7, 0] rfl)
        · refine lv_aload_n hx hb dX0_join_58 rfl (lv_at hl 0 rfl) ?_
          refine r_get (ci := 0) (v := .ref a.2.2.1) (C := RX0) (T := TX0) (N := 4) hx hb hts wiX0_join_join_X0 hown hK hw 0 rfl rfl 2 (by decide) wmX0_join_join_0 (fun _ h9 => h9) rfl dX0_join_59 ?_
          refine lv_iload hx hb dX0_join_62 (lv_at hl 7 rfl) ?_
          refine lv_iload hx hb dX0_join_64 (lv_at hl 4 rfl) ?_
          refine r_iast hx hb hK hw 2 rfl k rfl (by omega) (by decide) dX0_join_66 (ws' := wAx G a ((axJoinK x (x.2.2.1 i) (x.2.2.1 j) (x.2.2.2 i + d - x.2.2.2 j) k).1, (axJoinK x (x.2.2.1 i) (x.2.2.1 j) (x.2.2.2 i + d - x.2.2.2 j) k).2.1, (upd ((axJoinK x (x.2.2.1 i) (x.2.2.1 j) (x.2.2.2 i + d - x.2.2.2 j) k).2.2.1) k (x.2.2.1 i)), (axJoinK x (x.2.2.1 i) (x.2.2.1 j) (x.2.2.2 i + d - x.2.2.2 j) k).2.2.2)) rfl (fun H locs hw => ?_)
          refine lv_aload_n hx hb dX0_join_67 rfl (lv_at hl 0 rfl) ?_
          refine r_get (ci := 0) (v := .ref a.2.2.2) (C := RX0) (T := TX0) (N := 4) hx hb hts wiX0_join_join_X0 hown hK hw 0 rfl rfl 3 (by decide) wmX0_join_join_1 (fun _ h9 => h9) rfl dX0_join_68 ?_
          refine lv_iload hx hb dX0_join_71 (lv_at hl 7 rfl) ?_
          refine lv_dup2_11 hx hb dX0_join_73 rfl rfl ?_
          refine r_iald (v := ((axJoinK x (x.2.2.1 i) (x.2.2.1 j) (x.2.2.2 i + d - x.2.2.2 j) k).2.2.2) k) hx hb hK hw 3 rfl k rfl (by omega) (by decide) rfl dX0_join_74 ?_
          refine lv_iload hx hb dX0_join_75 (lv_at hl 6 rfl) ?_
          refine lv_iadd hx hb dX0_join_77 ?_
          refine r_iast hx hb hK hw 3 rfl k rfl (by omega) (by decide) dX0_join_78 (ws' := wAx G a ((axJoinK x (x.2.2.1 i) (x.2.2.1 j) (x.2.2.2 i + d - x.2.2.2 j) k).1, (axJoinK x (x.2.2.1 i) (x.2.2.1 j) (x.2.2.2 i + d - x.2.2.2 j) k).2.1, (upd ((axJoinK x (x.2.2.1 i) (x.2.2.1 j) (x.2.2.2 i + d - x.2.2.2 j) k).2.2.1) k (x.2.2.1 i)), (upd ((axJoinK x (x.2.2.1 i) (x.2.2.1 j) (x.2.2.2 i + d - x.2.2.2 j) k).2.2.2) k ((((axJoinK x (x.2.2.1 i) (x.2.2.1 j) (x.2.2.2 i + d - x.2.2.2 j) k).2.2.2) k) + (((x.2.2.2 i) + d) - (x.2.2.2 j)))))) rfl (fun H locs hw => ?_)
          refine lv_iinc (v := nI (k + 1)) (lv' := [(7, .int (nI (k + 1))), (0, .ref a.1), (1, .int (nI i)), (2, .int (nI j)), (3, .int d), (4, .int (x.2.2.1 i)), (5, .int (x.2.2.1 j)), (6, .int (((x.2.2.2 i) + d) - (x.2.2.2 j)))]) hx hb dX0_join_79 hl (k := 7) rfl (nI_add k 1) (by decide) rfl (fun ls hl => ?_)
          refine lv_goto (tgt := 36) hx hb dX0_join_82 (by decide) ?_
          exact ih_36 (k + 1) (by omega) (by first | assumption | omega | rfl) _ _ _ (wW.eq (show wAx G a ((axJoinK x (x.2.2.1 i) (x.2.2.1 j) (x.2.2.2 i + d - x.2.2.2 j) k).1, (axJoinK x (x.2.2.1 i) (x.2.2.1 j) (x.2.2.2 i + d - x.2.2.2 j) k).2.1, (upd ((axJoinK x (x.2.2.1 i) (x.2.2.1 j) (x.2.2.2 i + d - x.2.2.2 j) k).2.2.1) k (x.2.2.1 i)), (upd ((axJoinK x (x.2.2.1 i) (x.2.2.1 j) (x.2.2.2 i + d - x.2.2.2 j) k).2.2.2) k ((((axJoinK x (x.2.2.1 i) (x.2.2.1 j) (x.2.2.2 i + d - x.2.2.2 j) k).2.2.2) k) + (((x.2.2.2 i) + d) - (x.2.2.2 j))))) = wAx G a (axJoinK x (x.2.2.1 i) (x.2.2.1 j) (x.2.2.2 i + d - x.2.2.2 j) (k + 1)) from (by simp only [axJoinK, if_pos c_55])) hw) (lv_sub hl [1, 2, 3, 4, 5, 6, 7, 0] rfl)
  exact loop_36 ((17 - 0) + 1) 0 (Nat.lt_succ_self _) (by first | assumption | omega | rfl) _ _ _ (wW.eq (show wAx G a x = wAx G a (axJoinK x (x.2.2.1 i) (x.2.2.1 j) (x.2.2.2 i + d - x.2.2.2 j) 0) from rfl) hw) (lv_sub hl [4, 5, 6, 7, 3, 2, 1, 0] rfl)

theorem wiX0_pinFreeGroups_pin_X0 : ∀ w ∈ wsX00, w ∈ wsX0_pinFreeGroups := by decide +kernel
theorem wmX0_pinFreeGroups_pin_0 : Cond.fieldLink RX0 21 "PartSketch$Axis" "freeGroups" "I" ∈ wsX0_pinFreeGroups := by decide +kernel
theorem wmX0_pinFreeGroups_pin_1 : Cond.fieldLink RX0 15 "PartSketch$Axis" "group" "[I" ∈ wsX0_pinFreeGroups := by decide +kernel
theorem wmX0_pinFreeGroups_pin_2 : Cond.fieldLink RX0 9 "PartSketch$Axis" "hint" "[I" ∈ wsX0_pinFreeGroups := by decide +kernel
set_option maxHeartbeats 4000000 in
set_option maxRecDepth 100000 in
/-- Axis.pinFreeGroups -/
theorem c_pin (l : Launch) (G : gT) (a : aAx) (x : tAx) (np : Nat) (hnp : np ≤ 16) (sz : Nat) : MV l yX0_pinFreeGroups wsX0_pinFreeGroups ({ frames := 1, cells := 0, slots := 0, locals := 27 }) G [.ref a.1, .int (nI np)] (wAx G a x) (wAx G a (axPinK x np)) sz 0 0 := by
  refine m_of (Qc := fun A9 => (va_Qv (fun (_ : Unit) => True) (fun _ t9 => wPost G A9 (wAx G a (axPinK x np)) t9) A9)) (cc := cX0_pinFreeGroups) (maxL := 3) (ret := none) (by decide) rfl (Nat.le_of_ble_eq_true rfl) ?_
  intro p9 e9 s9 m9 A9 be9 mt9 c9 H locs ls hx hb hr hts hown hlocks hin hml hK hA hw hl
  have hl : lv_has ls 3 [(0, .ref a.1), (1, .int (nI np))] := hl
  refine lv_aload_n hx hb dX0_pinFreeGroups_0 rfl (lv_at hl 0 rfl) ?_
  refine lv_iconst (v := 0) hx hb dX0_pinFreeGroups_1 (by decide) ?_
  refine r_put (ci := 0) (v := .int 0) (ty := .int) (C := RX0) (T := TX0) (N := 4) hx hb hts wiX0_pinFreeGroups_pin_X0 tyX0 tyX0_ok nmX0 hown hK hw 0 rfl rfl 1 (by decide) wmX0_pinFreeGroups_pin_0 (fun _ h9 => h9) rfl (by decide +kernel) rfl rfl (Nat.le_of_ble_eq_true rfl) dX0_pinFreeGroups_2 (ws' := wAx G a (x.1, 0, x.2.2.1, x.2.2.2)) rfl (fun H locs hw => ?_)
  refine lv_iconst (v := 0) hx hb dX0_pinFreeGroups_5 (by decide) ?_
  refine lv_istore_n (lv' := [(2, .int 0), (0, .ref a.1), (1, .int (nI np))]) hx hb dX0_pinFreeGroups_6 rfl hl (by decide) rfl (fun ls hl => ?_)
  have loop_7 : ∀ (nf : Nat) (k : Nat) (hnf : (np - k) < nf) (hk : k ≤ np), ∀ (H : Heap) (locs : List Loc) (ls : Array Slot), wW G A9 s9.heap (wAx G a (axPinK x k)) H locs → lv_has ls 3 [(0, .ref a.1), (1, .int (nI np)), (2, .int (nI k))] → W p9 l e9 ({ frames := 1, cells := 0, slots := 0, locals := 27 }) s9 m9 [.ref a.1, .int (nI np)].toArray be9 mt9 c9 H locs 0 0 (MQ be9 (va_Qv (fun (_ : Unit) => True) (fun _ t9 => wPost G A9 (wAx G a (axPinK x np)) t9) A9) [.ref a.1, .int (nI np)].toArray s9 0 0 A9) (F0 m9 7 ls []) := by
    intro nf
    induction nf with
    | zero => intro k hnf hk; exact absurd hnf (Nat.not_lt_zero _)
    | succ nf ih_7 =>
      intro k hnf hk H locs ls hw hl
      refine lv_iload_n hx hb dX0_pinFreeGroups_7 rfl (lv_at hl 2 rfl) ?_
      refine lv_iload_n hx hb dX0_pinFreeGroups_8 rfl (lv_at hl 1 rfl) ?_
      refine lv_icmp_ge (tgt := 57) hx hb dX0_pinFreeGroups_9 (by decide) (fun c_9 => ?_) (fun c_9 => ?_)
      · have hx_9 : np ≤ k := ct_ge (k := k) (n := np) (by omega) (by omega) c_9
        exact m_vret hx hb hr hlocks hK hw (Nat.le_of_ble_eq_true rfl) (Nat.le_of_ble_eq_true rfl) dX0_pinFreeGroups_57 (show wAx G a (axPinK x k) = wAx G a (axPinK x np) by rw [show k = np by omega])
      · have hc_9 : k < np := ct_nge (k := k) (n := np) (by omega) (by omega) c_9
        refine lv_aload_n hx hb dX0_pinFreeGroups_12 rfl (lv_at hl 0 rfl) ?_
        refine r_get (ci := 0) (v := .ref a.2.2.1) (C := RX0) (T := TX0) (N := 4) hx hb hts wiX0_pinFreeGroups_pin_X0 hown hK hw 0 rfl rfl 2 (by decide) wmX0_pinFreeGroups_pin_1 (fun _ h9 => h9) rfl dX0_pinFreeGroups_13 ?_
        refine lv_iload_n hx hb dX0_pinFreeGroups_16 rfl (lv_at hl 2 rfl) ?_
        refine r_iald (v := ((axPinK x k).2.2.1) k) hx hb hK hw 2 rfl k rfl (by omega) (by decide) rfl dX0_pinFreeGroups_17 ?_
        refine lv_aload_n hx hb dX0_pinFreeGroups_18 rfl (lv_at hl 0 rfl) ?_
        refine r_get (ci := 0) (v := .ref a.2.2.1) (C := RX0) (T := TX0) (N := 4) hx hb hts wiX0_pinFreeGroups_pin_X0 hown hK hw 0 rfl rfl 2 (by decide) wmX0_pinFreeGroups_pin_1 (fun _ h9 => h9) rfl dX0_pinFreeGroups_19 ?_
        refine lv_bipush (v := 16) hx hb dX0_pinFreeGroups_22 (by decide) ?_
        refine r_iald (v := ((axPinK x k).2.2.1) 16) hx hb hK hw 2 rfl 16 rfl (by omega) (by decide) rfl dX0_pinFreeGroups_24 ?_
        refine lv_icmp_eq (tgt := 51) hx hb dX0_pinFreeGroups_25 (by decide) (fun c_25 => ?_) (fun c_25 => ?_)
        · refine lv_iinc (v := nI (k + 1)) (lv' := [(2, .int (nI (k + 1))), (0, .ref a.1), (1, .int (nI np))]) hx hb dX0_pinFreeGroups_51 hl (k := 2) rfl (nI_add k 1) (by decide) rfl (fun ls hl => ?_)
          refine lv_goto (tgt := 7) hx hb dX0_pinFreeGroups_54 (by decide) ?_
          exact ih_7 (k + 1) (by omega) (by first | assumption | omega | rfl) _ _ _ (wW.eq (show wAx G a (axPinK x k) = wAx G a (axPinK x (k + 1)) from (by simp only [axPinK, if_pos c_25])) hw) (lv_sub hl [1, 2, 0] rfl)
        · refine lv_aload_n hx hb dX0_pinFreeGroups_28 rfl (lv_at hl 0 rfl) ?_
          refine lv_dup hx hb dX0_pinFreeGroups_29 rfl ?_
          refine r_get (ci := 0) (v := .int ((axPinK x k).2.1)) (C := RX0) (T := TX0) (N := 4) hx hb hts wiX0_pinFreeGroups_pin_X0 hown hK hw 0 rfl rfl 1 (by decide) wmX0_pinFreeGroups_pin_0 (fun _ h9 => h9) rfl dX0_pinFreeGroups_30 ?_
          refine lv_iconst (v := 1) hx hb dX0_pinFreeGroups_33 (by decide) ?_
          refine lv_iadd hx hb dX0_pinFreeGroups_34 ?_
          refine r_put (ci := 0) (v := .int (((axPinK x k).2.1) + 1)) (ty := .int) (C := RX0) (T := TX0) (N := 4) hx hb hts wiX0_pinFreeGroups_pin_X0 tyX0 tyX0_ok nmX0 hown hK hw 0 rfl rfl 1 (by decide) wmX0_pinFreeGroups_pin_0 (fun _ h9 => h9) rfl (by decide +kernel) rfl rfl (Nat.le_of_ble_eq_true rfl) dX0_pinFreeGroups_35 (ws' := wAx G a ((axPinK x k).1, ((axPinK x k).2.1) + 1, (axPinK x k).2.2.1, (axPinK x k).2.2.2)) rfl (fun H locs hw => ?_)
          refine lv_aload_n hx hb dX0_pinFreeGroups_38 rfl (lv_at hl 0 rfl) ?_
          refine lv_bipush (v := 16) hx hb dX0_pinFreeGroups_39 (by decide) ?_
          refine lv_iload_n hx hb dX0_pinFreeGroups_41 rfl (lv_at hl 2 rfl) ?_
          refine lv_aload_n hx hb dX0_pinFreeGroups_42 rfl (lv_at hl 0 rfl) ?_
          refine r_get (ci := 0) (v := .ref a.2.1) (C := RX0) (T := TX0) (N := 4) hx hb hts wiX0_pinFreeGroups_pin_X0 hown hK hw 0 rfl rfl 0 (by decide) wmX0_pinFreeGroups_pin_2 (fun _ h9 => h9) rfl dX0_pinFreeGroups_43 ?_
          refine lv_iload_n hx hb dX0_pinFreeGroups_46 rfl (lv_at hl 2 rfl) ?_
          refine r_iald (v := ((axPinK x k).1) k) hx hb hK hw 1 rfl k rfl (by omega) (by decide) rfl dX0_pinFreeGroups_47 ?_
          have hwc : wW G A9 s9.heap (([] : va_W) ++ ((wAx G a ((axPinK x k).1, ((axPinK x k).2.1) + 1, (axPinK x k).2.2.1, (axPinK x k).2.2.2)) ++ ([] : va_W))) H locs := hw
          refine r_callv (u := ([] : va_W)) (w := wAx G a ((axPinK x k).1, ((axPinK x k).2.1) + 1, (axPinK x k).2.2.1, (axPinK x k).2.2.2)) (v := ([] : va_W)) (va_runV (As := [.int 16, .int (nI k), .int (((axPinK x k).1) k)]) (rest := []) ⟨hx, hb, hml, hown, hts⟩ (c_join l G a ((axPinK x k).1, ((axPinK x k).2.1) + 1, (axPinK x k).2.2.1, (axPinK x k).2.2.2) 16 k (((axPinK x k).1) k) (by first | assumption | omega | decide) (by first | assumption | omega | decide) H.size) (cwV 3 hts gX0_pinFreeGroups_X0_join rfl rfl rfl (by decide +kernel) ⟨Nat.le_of_ble_eq_true rfl, Nat.le_of_ble_eq_true rfl⟩) (r_preV (ci := 0) (q0 := 0) hK hwc rfl rfl rfl) rfl rfl hl.1 rfl (lv_room (Nat.le_of_ble_eq_true rfl)) dX0_pinFreeGroups_48 ⟨Nat.le_of_ble_eq_true rfl, Nat.le_of_ble_eq_true rfl⟩) hwc hA rfl rfl (fun H locs hw => ?_)
          have hw : wW G A9 s9.heap (wAx G a (axJoin ((axPinK x k).1, ((axPinK x k).2.1) + 1, (axPinK x k).2.2.1, (axPinK x k).2.2.2) 16 k (((axPinK x k).1) k))) H locs := hw
          refine lv_iinc (v := nI (k + 1)) (lv' := [(2, .int (nI (k + 1))), (0, .ref a.1), (1, .int (nI np))]) hx hb dX0_pinFreeGroups_51 hl (k := 2) rfl (nI_add k 1) (by decide) rfl (fun ls hl => ?_)
          refine lv_goto (tgt := 7) hx hb dX0_pinFreeGroups_54 (by decide) ?_
          exact ih_7 (k + 1) (by omega) (by first | assumption | omega | rfl) _ _ _ (wW.eq (show wAx G a (axJoin ((axPinK x k).1, ((axPinK x k).2.1) + 1, (axPinK x k).2.2.1, (axPinK x k).2.2.2) 16 k (((axPinK x k).1) k)) = wAx G a (axPinK x (k + 1)) from (by simp only [axPinK, if_neg c_25])) hw) (lv_sub hl [1, 2, 0] rfl)
  exact loop_7 ((np - 0) + 1) 0 (Nat.lt_succ_self _) (by first | assumption | omega | rfl) _ _ _ (wW.eq (show wAx G a (x.1, 0, x.2.2.1, x.2.2.2) = wAx G a (axPinK x 0) from rfl) hw) (lv_sub hl [1, 2, 0] rfl)
