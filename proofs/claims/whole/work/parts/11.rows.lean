/-! PartSketch$WishRows: what its methods compute, written as they do it -/
def gap {α : Type} (f : Nat → α) (w n : Nat) : Nat → α := va_cpy f f (w + 1) w (n - w - 1)
def rwDropK (r : tRw) (w : Nat) : Nat → tRw
  | 0 => (r.1, gap r.2.1 w r.1, gap r.2.2.1 w r.1, gap r.2.2.2.1 w r.1, gap r.2.2.2.2.1 w r.1, r.2.2.2.2.2.1, r.2.2.2.2.2.2)
  | k + 1 => ((rwDropK r w k).1, (rwDropK r w k).2.1, (rwDropK r w k).2.2.1, (rwDropK r w k).2.2.2.1, (rwDropK r w k).2.2.2.2.1, (rwDropK r w k).2.2.2.2.2.1, updF (rwDropK r w k).2.2.2.2.2.2 k (gap ((rwDropK r w k).2.2.2.2.2.2 k) w (rwDropK r w k).1))
theorem rwDropK_cnt (r : tRw) (w : Nat) : ∀ k, (rwDropK r w k).1 = r.1
  | 0 => rfl
  | k + 1 => rwDropK_cnt r w k
def rwDrop (r : tRw) (w : Nat) : tRw := ((rwDropK r w 4).1 - 1, (rwDropK r w 4).2)
def rwAppK (r : tRw) (kd : Int32) (i j : Nat) (d : Int32) : Nat → tRw
  | 0 => (r.1, upd r.2.1 r.1 kd, updN r.2.2.1 r.1 i, updN r.2.2.2.1 r.1 j, upd r.2.2.2.2.1 r.1 d, r.2.2.2.2.2.1, r.2.2.2.2.2.2)
  | k + 1 => ((rwAppK r kd i j d k).1, (rwAppK r kd i j d k).2.1, (rwAppK r kd i j d k).2.2.1, (rwAppK r kd i j d k).2.2.2.1, (rwAppK r kd i j d k).2.2.2.2.1, (rwAppK r kd i j d k).2.2.2.2.2.1, updF (rwAppK r kd i j d k).2.2.2.2.2.2 k (upd ((rwAppK r kd i j d k).2.2.2.2.2.2 k) r.1 101))
def rwApp (r : tRw) (kd : Int32) (i j : Nat) (d : Int32) : tRw := ((rwAppK r kd i j d 4).1 + 1, (rwAppK r kd i j d 4).2)
def rwCountK (r : tRw) (v : Nat) : Nat → Int32
  | 0 => 0
  | k + 1 => if r.2.2.2.2.2.2 v k = 101 then rwCountK r v k else rwCountK r v k + 1
def rwTakeK (r : tRw) (v : Nat) : Nat → Int32 × (Nat → Int32)
  | 0 => (0, r.2.2.2.2.1)
  | k + 1 => if r.2.2.2.2.2.2 v k = 101 then rwTakeK r v k else if r.2.2.2.2.2.2 v k = (rwTakeK r v k).2 k then rwTakeK r v k else ((rwTakeK r v k).1 + 1, upd (rwTakeK r v k).2 k (r.2.2.2.2.2.2 v k))

theorem wiX3_closeGap_closeGap_kd_X3 : ∀ w ∈ wsX30, w ∈ wsX3_closeGap := by decide +kernel
theorem wmX3_closeGap_closeGap_kd_0 : Cond.fieldLink RX3 32 "PartSketch$WishRows" "count" "I" ∈ wsX3_closeGap := by decide +kernel
theorem wmX3_closeGap_closeGap_kd_1 : Cond.methodLink RX3 40 arraycopyName ∈ wsX3_closeGap := by decide +kernel
theorem wmX3_closeGap_closeGap_kd_2 : Cond.native arraycopyName ∈ wsX3_closeGap := by decide +kernel
theorem wmX3_closeGap_closeGap_kd_3 : Cond.static arraycopyName ∈ wsX3_closeGap := by decide +kernel
theorem wmX3_closeGap_closeGap_kd_4 : Cond.initialized "java/lang/System" ∈ wsX3_closeGap := by decide +kernel
set_option maxHeartbeats 4000000 in
set_option maxRecDepth 100000 in
/-- WishRows.closeGap -/
theorem c_closeGap_kd (l : Launch) (G : gT) (a : aRw) (r : tRw) (w : Nat) (hwn : w < r.1) (hc : r.1 ≤ 40) (sz : Nat) : MV l yX3_closeGap wsX3_closeGap ({ frames := 1, cells := 0, slots := 0, locals := 60 }) G [.ref a.1, .ref a.2.1, .int (nI w)] (wRw G a r) (wRw G a (r.1, (gap r.2.1 w r.1), r.2.2.1, r.2.2.2.1, r.2.2.2.2.1, r.2.2.2.2.2.1, r.2.2.2.2.2.2)) sz 0 0 := by
  refine m_of (Qc := fun A9 => (va_Qv (fun (_ : Unit) => True) (fun _ t9 => wPost G A9 (wRw G a (r.1, (gap r.2.1 w r.1), r.2.2.1, r.2.2.2.1, r.2.2.2.2.1, r.2.2.2.2.2.1, r.2.2.2.2.2.2)) t9) A9)) (cc := cX3_closeGap) (maxL := 3) (ret := none) (by decide) rfl (Nat.le_of_ble_eq_true rfl) ?_
  intro p9 e9 s9 m9 A9 be9 mt9 c9 H locs ls hx hb hr hts hown hlocks hin hml hK hA hw hl
  have hl : lv_has ls 3 [(0, .ref a.1), (1, .ref a.2.1), (2, .int (nI w))] := hl
  refine lv_aload_n hx hb dX3_closeGap_0 rfl (lv_at hl 1 rfl) ?_
  refine lv_iload_n hx hb dX3_closeGap_1 rfl (lv_at hl 2 rfl) ?_
  refine lv_iconst (v := 1) hx hb dX3_closeGap_2 (by decide) ?_
  refine lv_iadd hx hb dX3_closeGap_3 ?_
  refine r_top (y := nI (w + 1)) (nI_add w 1) ?_
  refine lv_aload_n hx hb dX3_closeGap_4 rfl (lv_at hl 1 rfl) ?_
  refine lv_iload_n hx hb dX3_closeGap_5 rfl (lv_at hl 2 rfl) ?_
  refine lv_aload_n hx hb dX3_closeGap_6 rfl (lv_at hl 0 rfl) ?_
  refine r_get (ci := 3) (v := .int (nI r.1)) (C := RX3) (T := TX3) (N := 7) hx hb hts wiX3_closeGap_closeGap_kd_X3 hown hK hw 0 rfl rfl 0 (by decide) wmX3_closeGap_closeGap_kd_0 (fun _ h9 => h9) rfl dX3_closeGap_7 ?_
  refine lv_iload_n hx hb dX3_closeGap_10 rfl (lv_at hl 2 rfl) ?_
  refine lv_isub hx hb dX3_closeGap_11 ?_
  refine r_top (y := nI (r.1 - w)) (pk_sub (a := r.1) (b := w) (by omega)) ?_
  refine lv_iconst (v := 1) hx hb dX3_closeGap_12 (by decide) ?_
  refine lv_isub hx hb dX3_closeGap_13 ?_
  refine r_top (y := nI (r.1 - w - 1)) (pk_sub (a := r.1 - w) (b := 1) (by omega)) ?_
  refine r_copyi (ws' := wRw G a (r.1, (va_cpy r.2.1 r.2.1 (w + 1) w (r.1 - w - 1)), r.2.2.1, r.2.2.2.1, r.2.2.2.2.1, r.2.2.2.2.2.1, r.2.2.2.2.2.2)) hx hb (hml.trans hl.1.symm) hown (hts _ wmX3_closeGap_closeGap_kd_1) (hts _ wmX3_closeGap_closeGap_kd_2) (hts _ wmX3_closeGap_closeGap_kd_3) (hts _ wmX3_closeGap_closeGap_kd_4) hK hw 1 1 rfl rfl (sp := (w + 1)) (dp := w) (n := (r.1 - w - 1)) rfl rfl rfl (by omega) (by omega) (by decide) (by decide) (Nat.le_of_ble_eq_true rfl) (Nat.le_of_ble_eq_true rfl) dX3_closeGap_14 rfl (fun H locs hw => ?_)
  exact m_vret hx hb hr hlocks hK hw (Nat.le_of_ble_eq_true rfl) (Nat.le_of_ble_eq_true rfl) dX3_closeGap_17 rfl

theorem wiX3_closeGap_closeGap_on_X3 : ∀ w ∈ wsX30, w ∈ wsX3_closeGap := by decide +kernel
theorem wmX3_closeGap_closeGap_on_0 : Cond.fieldLink RX3 32 "PartSketch$WishRows" "count" "I" ∈ wsX3_closeGap := by decide +kernel
theorem wmX3_closeGap_closeGap_on_1 : Cond.methodLink RX3 40 arraycopyName ∈ wsX3_closeGap := by decide +kernel
theorem wmX3_closeGap_closeGap_on_2 : Cond.native arraycopyName ∈ wsX3_closeGap := by decide +kernel
theorem wmX3_closeGap_closeGap_on_3 : Cond.static arraycopyName ∈ wsX3_closeGap := by decide +kernel
theorem wmX3_closeGap_closeGap_on_4 : Cond.initialized "java/lang/System" ∈ wsX3_closeGap := by decide +kernel
set_option maxHeartbeats 4000000 in
set_option maxRecDepth 100000 in
/-- WishRows.closeGap -/
theorem c_closeGap_on (l : Launch) (G : gT) (a : aRw) (r : tRw) (w : Nat) (hwn : w < r.1) (hc : r.1 ≤ 40) (sz : Nat) : MV l yX3_closeGap wsX3_closeGap ({ frames := 1, cells := 0, slots := 0, locals := 60 }) G [.ref a.1, .ref a.2.2.1, .int (nI w)] (wRw G a r) (wRw G a (r.1, r.2.1, (gap r.2.2.1 w r.1), r.2.2.2.1, r.2.2.2.2.1, r.2.2.2.2.2.1, r.2.2.2.2.2.2)) sz 0 0 := by
  refine m_of (Qc := fun A9 => (va_Qv (fun (_ : Unit) => True) (fun _ t9 => wPost G A9 (wRw G a (r.1, r.2.1, (gap r.2.2.1 w r.1), r.2.2.2.1, r.2.2.2.2.1, r.2.2.2.2.2.1, r.2.2.2.2.2.2)) t9) A9)) (cc := cX3_closeGap) (maxL := 3) (ret := none) (by decide) rfl (Nat.le_of_ble_eq_true rfl) ?_
  intro p9 e9 s9 m9 A9 be9 mt9 c9 H locs ls hx hb hr hts hown hlocks hin hml hK hA hw hl
  have hl : lv_has ls 3 [(0, .ref a.1), (1, .ref a.2.2.1), (2, .int (nI w))] := hl
  refine lv_aload_n hx hb dX3_closeGap_0 rfl (lv_at hl 1 rfl) ?_
  refine lv_iload_n hx hb dX3_closeGap_1 rfl (lv_at hl 2 rfl) ?_
  refine lv_iconst (v := 1) hx hb dX3_closeGap_2 (by decide) ?_
  refine lv_iadd hx hb dX3_closeGap_3 ?_
  refine r_top (y := nI (w + 1)) (nI_add w 1) ?_
  refine lv_aload_n hx hb dX3_closeGap_4 rfl (lv_at hl 1 rfl) ?_
  refine lv_iload_n hx hb dX3_closeGap_5 rfl (lv_at hl 2 rfl) ?_
  refine lv_aload_n hx hb dX3_closeGap_6 rfl (lv_at hl 0 rfl) ?_
  refine r_get (ci := 3) (v := .int (nI r.1)) (C := RX3) (T := TX3) (N := 7) hx hb hts wiX3_closeGap_closeGap_on_X3 hown hK hw 0 rfl rfl 0 (by decide) wmX3_closeGap_closeGap_on_0 (fun _ h9 => h9) rfl dX3_closeGap_7 ?_
  refine lv_iload_n hx hb dX3_closeGap_10 rfl (lv_at hl 2 rfl) ?_
  refine lv_isub hx hb dX3_closeGap_11 ?_
  refine r_top (y := nI (r.1 - w)) (pk_sub (a := r.1) (b := w) (by omega)) ?_
  refine lv_iconst (v := 1) hx hb dX3_closeGap_12 (by decide) ?_
  refine lv_isub hx hb dX3_closeGap_13 ?_
  refine r_top (y := nI (r.1 - w - 1)) (pk_sub (a := r.1 - w) (b := 1) (by omega)) ?_
  refine r_copyi (ws' := wRw G a (r.1, r.2.1, (va_cpy r.2.2.1 r.2.2.1 (w + 1) w (r.1 - w - 1)), r.2.2.2.1, r.2.2.2.2.1, r.2.2.2.2.2.1, r.2.2.2.2.2.2)) hx hb (hml.trans hl.1.symm) hown (hts _ wmX3_closeGap_closeGap_on_1) (hts _ wmX3_closeGap_closeGap_on_2) (hts _ wmX3_closeGap_closeGap_on_3) (hts _ wmX3_closeGap_closeGap_on_4) hK hw 2 2 rfl rfl (sp := (w + 1)) (dp := w) (n := (r.1 - w - 1)) rfl rfl rfl (by omega) (by omega) (by decide) (by decide) (Nat.le_of_ble_eq_true rfl) (Nat.le_of_ble_eq_true rfl) dX3_closeGap_14 (by rw [cpy_nI]; rfl) (fun H locs hw => ?_)
  exact m_vret hx hb hr hlocks hK hw (Nat.le_of_ble_eq_true rfl) (Nat.le_of_ble_eq_true rfl) dX3_closeGap_17 rfl

theorem wiX3_closeGap_closeGap_ot_X3 : ∀ w ∈ wsX30, w ∈ wsX3_closeGap := by decide +kernel
theorem wmX3_closeGap_closeGap_ot_0 : Cond.fieldLink RX3 32 "PartSketch$WishRows" "count" "I" ∈ wsX3_closeGap := by decide +kernel
theorem wmX3_closeGap_closeGap_ot_1 : Cond.methodLink RX3 40 arraycopyName ∈ wsX3_closeGap := by decide +kernel
theorem wmX3_closeGap_closeGap_ot_2 : Cond.native arraycopyName ∈ wsX3_closeGap := by decide +kernel
theorem wmX3_closeGap_closeGap_ot_3 : Cond.static arraycopyName ∈ wsX3_closeGap := by decide +kernel
theorem wmX3_closeGap_closeGap_ot_4 : Cond.initialized "java/lang/System" ∈ wsX3_closeGap := by decide +kernel
set_option maxHeartbeats 4000000 in
set_option maxRecDepth 100000 in
/-- WishRows.closeGap -/
theorem c_closeGap_ot (l : Launch) (G : gT) (a : aRw) (r : tRw) (w : Nat) (hwn : w < r.1) (hc : r.1 ≤ 40) (sz : Nat) : MV l yX3_closeGap wsX3_closeGap ({ frames := 1, cells := 0, slots := 0, locals := 60 }) G [.ref a.1, .ref a.2.2.2.1, .int (nI w)] (wRw G a r) (wRw G a (r.1, r.2.1, r.2.2.1, (gap r.2.2.2.1 w r.1), r.2.2.2.2.1, r.2.2.2.2.2.1, r.2.2.2.2.2.2)) sz 0 0 := by
  refine m_of (Qc := fun A9 => (va_Qv (fun (_ : Unit) => True) (fun _ t9 => wPost G A9 (wRw G a (r.1, r.2.1, r.2.2.1, (gap r.2.2.2.1 w r.1), r.2.2.2.2.1, r.2.2.2.2.2.1, r.2.2.2.2.2.2)) t9) A9)) (cc := cX3_closeGap) (maxL := 3) (ret := none) (by decide) rfl (Nat.le_of_ble_eq_true rfl) ?_
  intro p9 e9 s9 m9 A9 be9 mt9 c9 H locs ls hx hb hr hts hown hlocks hin hml hK hA hw hl
  have hl : lv_has ls 3 [(0, .ref a.1), (1, .ref a.2.2.2.1), (2, .int (nI w))] := hl
  refine lv_aload_n hx hb dX3_closeGap_0 rfl (lv_at hl 1 rfl) ?_
  refine lv_iload_n hx hb dX3_closeGap_1 rfl (lv_at hl 2 rfl) ?_
  refine lv_iconst (v := 1) hx hb dX3_closeGap_2 (by decide) ?_
  refine lv_iadd hx hb dX3_closeGap_3 ?_
  refine r_top (y := nI (w + 1)) (nI_add w 1) ?_
  refine lv_aload_n hx hb dX3_closeGap_4 rfl (lv_at hl 1 rfl) ?_
  refine lv_iload_n hx hb dX3_closeGap_5 rfl (lv_at hl 2 rfl) ?_
  refine lv_aload_n hx hb dX3_closeGap_6 rfl (lv_at hl 0 rfl) ?_
  refine r_get (ci := 3) (v := .int (nI r.1)) (C := RX3) (T := TX3) (N := 7) hx hb hts wiX3_closeGap_closeGap_ot_X3 hown hK hw 0 rfl rfl 0 (by decide) wmX3_closeGap_closeGap_ot_0 (fun _ h9 => h9) rfl dX3_closeGap_7 ?_
  refine lv_iload_n hx hb dX3_closeGap_10 rfl (lv_at hl 2 rfl) ?_
  refine lv_isub hx hb dX3_closeGap_11 ?_
  refine r_top (y := nI (r.1 - w)) (pk_sub (a := r.1) (b := w) (by omega)) ?_
  refine lv_iconst (v := 1) hx hb dX3_closeGap_12 (by decide) ?_
  refine lv_isub hx hb dX3_closeGap_13 ?_
  refine r_top (y := nI (r.1 - w - 1)) (pk_sub (a := r.1 - w) (b := 1) (by omega)) ?_
  refine r_copyi (ws' := wRw G a (r.1, r.2.1, r.2.2.1, (va_cpy r.2.2.2.1 r.2.2.2.1 (w + 1) w (r.1 - w - 1)), r.2.2.2.2.1, r.2.2.2.2.2.1, r.2.2.2.2.2.2)) hx hb (hml.trans hl.1.symm) hown (hts _ wmX3_closeGap_closeGap_ot_1) (hts _ wmX3_closeGap_closeGap_ot_2) (hts _ wmX3_closeGap_closeGap_ot_3) (hts _ wmX3_closeGap_closeGap_ot_4) hK hw 3 3 rfl rfl (sp := (w + 1)) (dp := w) (n := (r.1 - w - 1)) rfl rfl rfl (by omega) (by omega) (by decide) (by decide) (Nat.le_of_ble_eq_true rfl) (Nat.le_of_ble_eq_true rfl) dX3_closeGap_14 (by rw [cpy_nI]; rfl) (fun H locs hw => ?_)
  exact m_vret hx hb hr hlocks hK hw (Nat.le_of_ble_eq_true rfl) (Nat.le_of_ble_eq_true rfl) dX3_closeGap_17 rfl

theorem wiX3_closeGap_closeGap_sz_X3 : ∀ w ∈ wsX30, w ∈ wsX3_closeGap := by decide +kernel
theorem wmX3_closeGap_closeGap_sz_0 : Cond.fieldLink RX3 32 "PartSketch$WishRows" "count" "I" ∈ wsX3_closeGap := by decide +kernel
theorem wmX3_closeGap_closeGap_sz_1 : Cond.methodLink RX3 40 arraycopyName ∈ wsX3_closeGap := by decide +kernel
theorem wmX3_closeGap_closeGap_sz_2 : Cond.native arraycopyName ∈ wsX3_closeGap := by decide +kernel
theorem wmX3_closeGap_closeGap_sz_3 : Cond.static arraycopyName ∈ wsX3_closeGap := by decide +kernel
theorem wmX3_closeGap_closeGap_sz_4 : Cond.initialized "java/lang/System" ∈ wsX3_closeGap := by decide +kernel
set_option maxHeartbeats 4000000 in
set_option maxRecDepth 100000 in
/-- WishRows.closeGap -/
theorem c_closeGap_sz (l : Launch) (G : gT) (a : aRw) (r : tRw) (w : Nat) (hwn : w < r.1) (hc : r.1 ≤ 40) (sz : Nat) : MV l yX3_closeGap wsX3_closeGap ({ frames := 1, cells := 0, slots := 0, locals := 60 }) G [.ref a.1, .ref a.2.2.2.2.1, .int (nI w)] (wRw G a r) (wRw G a (r.1, r.2.1, r.2.2.1, r.2.2.2.1, (gap r.2.2.2.2.1 w r.1), r.2.2.2.2.2.1, r.2.2.2.2.2.2)) sz 0 0 := by
  refine m_of (Qc := fun A9 => (va_Qv (fun (_ : Unit) => True) (fun _ t9 => wPost G A9 (wRw G a (r.1, r.2.1, r.2.2.1, r.2.2.2.1, (gap r.2.2.2.2.1 w r.1), r.2.2.2.2.2.1, r.2.2.2.2.2.2)) t9) A9)) (cc := cX3_closeGap) (maxL := 3) (ret := none) (by decide) rfl (Nat.le_of_ble_eq_true rfl) ?_
  intro p9 e9 s9 m9 A9 be9 mt9 c9 H locs ls hx hb hr hts hown hlocks hin hml hK hA hw hl
  have hl : lv_has ls 3 [(0, .ref a.1), (1, .ref a.2.2.2.2.1), (2, .int (nI w))] := hl
  refine lv_aload_n hx hb dX3_closeGap_0 rfl (lv_at hl 1 rfl) ?_
  refine lv_iload_n hx hb dX3_closeGap_1 rfl (lv_at hl 2 rfl) ?_
  refine lv_iconst (v := 1) hx hb dX3_closeGap_2 (by decide) ?_
  refine lv_iadd hx hb dX3_closeGap_3 ?_
  refine r_top (y := nI (w + 1)) (nI_add w 1) ?_
  refine lv_aload_n hx hb dX3_closeGap_4 rfl (lv_at hl 1 rfl) ?_
  refine lv_iload_n hx hb dX3_closeGap_5 rfl (lv_at hl 2 rfl) ?_
  refine lv_aload_n hx hb dX3_closeGap_6 rfl (lv_at hl 0 rfl) ?_
  refine r_get (ci := 3) (v := .int (nI r.1)) (C := RX3) (T := TX3) (N := 7) hx hb hts wiX3_closeGap_closeGap_sz_X3 hown hK hw 0 rfl rfl 0 (by decide) wmX3_closeGap_closeGap_sz_0 (fun _ h9 => h9) rfl dX3_closeGap_7 ?_
  refine lv_iload_n hx hb dX3_closeGap_10 rfl (lv_at hl 2 rfl) ?_
  refine lv_isub hx hb dX3_closeGap_11 ?_
  refine r_top (y := nI (r.1 - w)) (pk_sub (a := r.1) (b := w) (by omega)) ?_
  refine lv_iconst (v := 1) hx hb dX3_closeGap_12 (by decide) ?_
  refine lv_isub hx hb dX3_closeGap_13 ?_
  refine r_top (y := nI (r.1 - w - 1)) (pk_sub (a := r.1 - w) (b := 1) (by omega)) ?_
  refine r_copyi (ws' := wRw G a (r.1, r.2.1, r.2.2.1, r.2.2.2.1, (va_cpy r.2.2.2.2.1 r.2.2.2.2.1 (w + 1) w (r.1 - w - 1)), r.2.2.2.2.2.1, r.2.2.2.2.2.2)) hx hb (hml.trans hl.1.symm) hown (hts _ wmX3_closeGap_closeGap_sz_1) (hts _ wmX3_closeGap_closeGap_sz_2) (hts _ wmX3_closeGap_closeGap_sz_3) (hts _ wmX3_closeGap_closeGap_sz_4) hK hw 4 4 rfl rfl (sp := (w + 1)) (dp := w) (n := (r.1 - w - 1)) rfl rfl rfl (by omega) (by omega) (by decide) (by decide) (Nat.le_of_ble_eq_true rfl) (Nat.le_of_ble_eq_true rfl) dX3_closeGap_14 rfl (fun H locs hw => ?_)
  exact m_vret hx hb hr hlocks hK hw (Nat.le_of_ble_eq_true rfl) (Nat.le_of_ble_eq_true rfl) dX3_closeGap_17 rfl

theorem wiX3_closeGap_closeGap_td_X3 : ∀ w ∈ wsX30, w ∈ wsX3_closeGap := by decide +kernel
theorem wmX3_closeGap_closeGap_td_0 : Cond.fieldLink RX3 32 "PartSketch$WishRows" "count" "I" ∈ wsX3_closeGap := by decide +kernel
theorem wmX3_closeGap_closeGap_td_1 : Cond.methodLink RX3 40 arraycopyName ∈ wsX3_closeGap := by decide +kernel
theorem wmX3_closeGap_closeGap_td_2 : Cond.native arraycopyName ∈ wsX3_closeGap := by decide +kernel
theorem wmX3_closeGap_closeGap_td_3 : Cond.static arraycopyName ∈ wsX3_closeGap := by decide +kernel
theorem wmX3_closeGap_closeGap_td_4 : Cond.initialized "java/lang/System" ∈ wsX3_closeGap := by decide +kernel
set_option maxHeartbeats 4000000 in
set_option maxRecDepth 100000 in
/-- WishRows.closeGap -/
theorem c_closeGap_td (l : Launch) (G : gT) (a : aRw) (r : tRw) (w : Nat) (v : Nat) (hwn : w < r.1) (hc : r.1 ≤ 40) (hv : v < 4) (sz : Nat) : MV l yX3_closeGap wsX3_closeGap ({ frames := 1, cells := 0, slots := 0, locals := 60 }) G [.ref a.1, .ref (a.2.2.2.2.2.2.2 v), .int (nI w)] (wRw G a r) (wRw G a (r.1, r.2.1, r.2.2.1, r.2.2.2.1, r.2.2.2.2.1, r.2.2.2.2.2.1, (updF r.2.2.2.2.2.2 v (gap (r.2.2.2.2.2.2 v) w r.1)))) sz 0 0 := by
  refine m_of (Qc := fun A9 => (va_Qv (fun (_ : Unit) => True) (fun _ t9 => wPost G A9 (wRw G a (r.1, r.2.1, r.2.2.1, r.2.2.2.1, r.2.2.2.2.1, r.2.2.2.2.2.1, (updF r.2.2.2.2.2.2 v (gap (r.2.2.2.2.2.2 v) w r.1)))) t9) A9)) (cc := cX3_closeGap) (maxL := 3) (ret := none) (by decide) rfl (Nat.le_of_ble_eq_true rfl) ?_
  intro p9 e9 s9 m9 A9 be9 mt9 c9 H locs ls hx hb hr hts hown hlocks hin hml hK hA hw hl
  have hl : lv_has ls 3 [(0, .ref a.1), (1, .ref (a.2.2.2.2.2.2.2 v)), (2, .int (nI w))] := hl
  refine lv_aload_n hx hb dX3_closeGap_0 rfl (lv_at hl 1 rfl) ?_
  refine lv_iload_n hx hb dX3_closeGap_1 rfl (lv_at hl 2 rfl) ?_
  refine lv_iconst (v := 1) hx hb dX3_closeGap_2 (by decide) ?_
  refine lv_iadd hx hb dX3_closeGap_3 ?_
  refine r_top (y := nI (w + 1)) (nI_add w 1) ?_
  refine lv_aload_n hx hb dX3_closeGap_4 rfl (lv_at hl 1 rfl) ?_
  refine lv_iload_n hx hb dX3_closeGap_5 rfl (lv_at hl 2 rfl) ?_
  refine lv_aload_n hx hb dX3_closeGap_6 rfl (lv_at hl 0 rfl) ?_
  refine r_get (ci := 3) (v := .int (nI r.1)) (C := RX3) (T := TX3) (N := 7) hx hb hts wiX3_closeGap_closeGap_td_X3 hown hK hw 0 rfl rfl 0 (by decide) wmX3_closeGap_closeGap_td_0 (fun _ h9 => h9) rfl dX3_closeGap_7 ?_
  refine lv_iload_n hx hb dX3_closeGap_10 rfl (lv_at hl 2 rfl) ?_
  refine lv_isub hx hb dX3_closeGap_11 ?_
  refine r_top (y := nI (r.1 - w)) (pk_sub (a := r.1) (b := w) (by omega)) ?_
  refine lv_iconst (v := 1) hx hb dX3_closeGap_12 (by decide) ?_
  refine lv_isub hx hb dX3_closeGap_13 ?_
  refine r_top (y := nI (r.1 - w - 1)) (pk_sub (a := r.1 - w) (b := 1) (by omega)) ?_
  refine r_copyi (ws' := wRw G a (r.1, r.2.1, r.2.2.1, r.2.2.2.1, r.2.2.2.2.1, r.2.2.2.2.2.1, (updF r.2.2.2.2.2.2 v (va_cpy (r.2.2.2.2.2.2 v) (r.2.2.2.2.2.2 v) (w + 1) w (r.1 - w - 1))))) hx hb (hml.trans hl.1.symm) hown (hts _ wmX3_closeGap_closeGap_td_1) (hts _ wmX3_closeGap_closeGap_td_2) (hts _ wmX3_closeGap_closeGap_td_3) (hts _ wmX3_closeGap_closeGap_td_4) hK hw (7 + v) (7 + v) (rw_at (by omega)) (rw_at (by omega)) (sp := (w + 1)) (dp := w) (n := (r.1 - w - 1)) rfl rfl rfl (by omega) (by omega) (by decide) (by decide) (Nat.le_of_ble_eq_true rfl) (Nat.le_of_ble_eq_true rfl) dX3_closeGap_14 (rw_set (G := G) (a := a) (r := r) (f := (va_cpy (r.2.2.2.2.2.2 v) (r.2.2.2.2.2.2 v) (w + 1) w (r.1 - w - 1))) (v := v) (by omega)) (fun H locs hw => ?_)
  exact m_vret hx hb hr hlocks hK hw (Nat.le_of_ble_eq_true rfl) (Nat.le_of_ble_eq_true rfl) dX3_closeGap_17 rfl

theorem wiX3_drop_drop_X3 : ∀ w ∈ wsX30, w ∈ wsX3_drop := by decide +kernel
theorem wmX3_drop_drop_0 : Cond.fieldLink RX3 9 "PartSketch$WishRows" "kind" "[I" ∈ wsX3_drop := by decide +kernel
theorem wmX3_drop_drop_1 : Cond.fieldLink RX3 15 "PartSketch$WishRows" "one" "[I" ∈ wsX3_drop := by decide +kernel
theorem wmX3_drop_drop_2 : Cond.fieldLink RX3 18 "PartSketch$WishRows" "other" "[I" ∈ wsX3_drop := by decide +kernel
theorem wmX3_drop_drop_3 : Cond.fieldLink RX3 21 "PartSketch$WishRows" "size" "[I" ∈ wsX3_drop := by decide +kernel
theorem wmX3_drop_drop_4 : Cond.fieldLink RX3 32 "PartSketch$WishRows" "count" "I" ∈ wsX3_drop := by decide +kernel
theorem wmX3_drop_drop_5 : Cond.fieldLink RX3 29 "PartSketch$WishRows" "told" "[[I" ∈ wsX3_drop := by decide +kernel
set_option maxHeartbeats 4000000 in
set_option maxRecDepth 100000 in
/-- WishRows.drop -/
theorem c_drop (l : Launch) (G : gT) (a : aRw) (r : tRw) (w : Nat) (hwn : w < r.1) (hc : r.1 ≤ 40) (sz : Nat) : MV l yX3_drop wsX3_drop ({ frames := 2, cells := 0, slots := 0, locals := 82 }) G [.ref a.1, .int (nI w)] (wRw G a r) (wRw G a (rwDrop r w)) sz 0 0 := by
  refine m_of (Qc := fun A9 => (va_Qv (fun (_ : Unit) => True) (fun _ t9 => wPost G A9 (wRw G a (rwDrop r w)) t9) A9)) (cc := cX3_drop) (maxL := 3) (ret := none) (by decide) rfl (Nat.le_of_ble_eq_true rfl) ?_
  intro p9 e9 s9 m9 A9 be9 mt9 c9 H locs ls hx hb hr hts hown hlocks hin hml hK hA hw hl
  have hl : lv_has ls 3 [(0, .ref a.1), (1, .int (nI w))] := hl
  refine lv_aload_n hx hb dX3_drop_0 rfl (lv_at hl 0 rfl) ?_
  refine lv_aload_n hx hb dX3_drop_1 rfl (lv_at hl 0 rfl) ?_
  refine r_get (ci := 3) (v := .ref a.2.1) (C := RX3) (T := TX3) (N := 7) hx hb hts wiX3_drop_drop_X3 hown hK hw 0 rfl rfl 1 (by decide) wmX3_drop_drop_0 (fun _ h9 => h9) rfl dX3_drop_2 ?_
  refine lv_iload_n hx hb dX3_drop_5 rfl (lv_at hl 1 rfl) ?_
  have hwc : wW G A9 s9.heap (([] : va_W) ++ ((wRw G a r) ++ ([] : va_W))) H locs := hw
  refine r_callv (u := ([] : va_W)) (w := wRw G a r) (v := ([] : va_W)) (va_runV (As := [.ref a.2.1, .int (nI w)]) (rest := []) ⟨hx, hb, hml, hown, hts⟩ (c_closeGap_kd l G a r w (by first | assumption | omega | decide) (by first | assumption | omega | decide) H.size) (cwV 2 hts gX3_drop_X3_closeGap rfl rfl rfl (by decide +kernel) ⟨Nat.le_of_ble_eq_true rfl, Nat.le_of_ble_eq_true rfl⟩) (r_preV (ci := 3) (q0 := 0) hK hwc rfl rfl rfl) rfl rfl hl.1 rfl (lv_room (Nat.le_of_ble_eq_true rfl)) dX3_drop_6 ⟨Nat.le_of_ble_eq_true rfl, Nat.le_of_ble_eq_true rfl⟩) hwc hA rfl rfl (fun H locs hw => ?_)
  have hw : wW G A9 s9.heap (wRw G a (r.1, (gap r.2.1 w r.1), r.2.2.1, r.2.2.2.1, r.2.2.2.2.1, r.2.2.2.2.2.1, r.2.2.2.2.2.2)) H locs := hw
  refine lv_aload_n hx hb dX3_drop_9 rfl (lv_at hl 0 rfl) ?_
  refine lv_aload_n hx hb dX3_drop_10 rfl (lv_at hl 0 rfl) ?_
  refine r_get (ci := 3) (v := .ref a.2.2.1) (C := RX3) (T := TX3) (N := 7) hx hb hts wiX3_drop_drop_X3 hown hK hw 0 rfl rfl 2 (by decide) wmX3_drop_drop_1 (fun _ h9 => h9) rfl dX3_drop_11 ?_
  refine lv_iload_n hx hb dX3_drop_14 rfl (lv_at hl 1 rfl) ?_
  have hwc : wW G A9 s9.heap (([] : va_W) ++ ((wRw G a (r.1, (gap r.2.1 w r.1), r.2.2.1, r.2.2.2.1, r.2.2.2.2.1, r.2.2.2.2.2.1, r.2.2.2.2.2.2)) ++ ([] : va_W))) H locs := hw
  refine r_callv (u := ([] : va_W)) (w := wRw G a (r.1, (gap r.2.1 w r.1), r.2.2.1, r.2.2.2.1, r.2.2.2.2.1, r.2.2.2.2.2.1, r.2.2.2.2.2.2)) (v := ([] : va_W)) (va_runV (As := [.ref a.2.2.1, .int (nI w)]) (rest := []) ⟨hx, hb, hml, hown, hts⟩ (c_closeGap_on l G a (r.1, (gap r.2.1 w r.1), r.2.2.1, r.2.2.2.1, r.2.2.2.2.1, r.2.2.2.2.2.1, r.2.2.2.2.2.2) w (by first | assumption | omega | decide) (by first | assumption | omega | decide) H.size) (cwV 2 hts gX3_drop_X3_closeGap rfl rfl rfl (by decide +kernel) ⟨Nat.le_of_ble_eq_true rfl, Nat.le_of_ble_eq_true rfl⟩) (r_preV (ci := 3) (q0 := 0) hK hwc rfl rfl rfl) rfl rfl hl.1 rfl (lv_room (Nat.le_of_ble_eq_true rfl)) dX3_drop_15 ⟨Nat.le_of_ble_eq_true rfl, Nat.le_of_ble_eq_true rfl⟩) hwc hA rfl rfl (fun H locs hw => ?_)
  have hw : wW G A9 s9.heap (wRw G a (r.1, (gap r.2.1 w r.1), (gap r.2.2.1 w r.1), r.2.2.2.1, r.2.2.2.2.1, r.2.2.2.2.2.1, r.2.2.2.2.2.2)) H locs := hw
  refine lv_aload_n hx hb dX3_drop_18 rfl (lv_at hl 0 rfl) ?_
  refine lv_aload_n hx hb dX3_drop_19 rfl (lv_at hl 0 rfl) ?_
  refine r_get (ci := 3) (v := .ref a.2.2.2.1) (C := RX3) (T := TX3) (N := 7) hx hb hts wiX3_drop_drop_X3 hown hK hw 0 rfl rfl 3 (by decide) wmX3_drop_drop_2 (fun _ h9 => h9) rfl dX3_drop_20 ?_
  refine lv_iload_n hx hb dX3_drop_23 rfl (lv_at hl 1 rfl) ?_
  have hwc : wW G A9 s9.heap (([] : va_W) ++ ((wRw G a (r.1, (gap r.2.1 w r.1), (gap r.2.2.1 w r.1), r.2.2.2.1, r.2.2.2.2.1, r.2.2.2.2.2.1, r.2.2.2.2.2.2)) ++ ([] : va_W))) H locs := hw
  refine r_callv (u := ([] : va_W)) (w := wRw G a (r.1, (gap r.2.1 w r.1), (gap r.2.2.1 w r.1), r.2.2.2.1, r.2.2.2.2.1, r.2.2.2.2.2.1, r.2.2.2.2.2.2)) (v := ([] : va_W)) (va_runV (As := [.ref a.2.2.2.1, .int (nI w)]) (rest := []) ⟨hx, hb, hml, hown, hts⟩ (c_closeGap_ot l G a (r.1, (gap r.2.1 w r.1), (gap r.2.2.1 w r.1), r.2.2.2.1, r.2.2.2.2.1, r.2.2.2.2.2.1, r.2.2.2.2.2.2) w (by first | assumption | omega | decide) (by first | assumption | omega | decide) H.size) (cwV 2 hts gX3_drop_X3_closeGap rfl rfl rfl (by decide +kernel) ⟨Nat.le_of_ble_eq_true rfl, Nat.le_of_ble_eq_true rfl⟩) (r_preV (ci := 3) (q0 := 0) hK hwc rfl rfl rfl) rfl rfl hl.1 rfl (lv_room (Nat.le_of_ble_eq_true rfl)) dX3_drop_24 ⟨Nat.le_of_ble_eq_true rfl, Nat.le_of_ble_eq_true rfl⟩) hwc hA rfl rfl (fun H locs hw => ?_)
  have hw : wW G A9 s9.heap (wRw G a (r.1, (gap r.2.1 w r.1), (gap r.2.2.1 w r.1), (gap r.2.2.2.1 w r.1), r.2.2.2.2.1, r.2.2.2.2.2.1, r.2.2.2.2.2.2)) H locs := hw
  refine lv_aload_n hx hb dX3_drop_27 rfl (lv_at hl 0 rfl) ?_
  refine lv_aload_n hx hb dX3_drop_28 rfl (lv_at hl 0 rfl) ?_
  refine r_get (ci := 3) (v := .ref a.2.2.2.2.1) (C := RX3) (T := TX3) (N := 7) hx hb hts wiX3_drop_drop_X3 hown hK hw 0 rfl rfl 4 (by decide) wmX3_drop_drop_3 (fun _ h9 => h9) rfl dX3_drop_29 ?_
  refine lv_iload_n hx hb dX3_drop_32 rfl (lv_at hl 1 rfl) ?_
  have hwc : wW G A9 s9.heap (([] : va_W) ++ ((wRw G a (r.1, (gap r.2.1 w r.1), (gap r.2.2.1 w r.1), (gap r.2.2.2.1 w r.1), r.2.2.2.2.1, r.2.2.2.2.2.1, r.2.2.2.2.2.2)) ++ ([] : va_W))) H locs := hw
  refine r_callv (u := ([] : va_W)) (w := wRw G a (r.1, (gap r.2.1 w r.1), (gap r.2.2.1 w r.1), (gap r.2.2.2.1 w r.1), r.2.2.2.2.1, r.2.2.2.2.2.1, r.2.2.2.2.2.2)) (v := ([] : va_W)) (va_runV (As := [.ref a.2.2.2.2.1, .int (nI w)]) (rest := []) ⟨hx, hb, hml, hown, hts⟩ (c_closeGap_sz l G a (r.1, (gap r.2.1 w r.1), (gap r.2.2.1 w r.1), (gap r.2.2.2.1 w r.1), r.2.2.2.2.1, r.2.2.2.2.2.1, r.2.2.2.2.2.2) w (by first | assumption | omega | decide) (by first | assumption | omega | decide) H.size) (cwV 2 hts gX3_drop_X3_closeGap rfl rfl rfl (by decide +kernel) ⟨Nat.le_of_ble_eq_true rfl, Nat.le_of_ble_eq_true rfl⟩) (r_preV (ci := 3) (q0 := 0) hK hwc rfl rfl rfl) rfl rfl hl.1 rfl (lv_room (Nat.le_of_ble_eq_true rfl)) dX3_drop_33 ⟨Nat.le_of_ble_eq_true rfl, Nat.le_of_ble_eq_true rfl⟩) hwc hA rfl rfl (fun H locs hw => ?_)
  have hw : wW G A9 s9.heap (wRw G a (r.1, (gap r.2.1 w r.1), (gap r.2.2.1 w r.1), (gap r.2.2.2.1 w r.1), (gap r.2.2.2.2.1 w r.1), r.2.2.2.2.2.1, r.2.2.2.2.2.2)) H locs := hw
  refine lv_iconst (v := 0) hx hb dX3_drop_36 (by decide) ?_
  refine lv_istore_n (lv' := [(2, .int 0), (0, .ref a.1), (1, .int (nI w))]) hx hb dX3_drop_37 rfl hl (by decide) rfl (fun ls hl => ?_)
  have loop_38 : ∀ (nf : Nat) (k : Nat) (hnf : (4 - k) < nf) (hk : k ≤ 4), ∀ (H : Heap) (locs : List Loc) (ls : Array Slot), wW G A9 s9.heap (wRw G a (rwDropK r w k)) H locs → lv_has ls 3 [(0, .ref a.1), (1, .int (nI w)), (2, .int (nI k))] → W p9 l e9 ({ frames := 2, cells := 0, slots := 0, locals := 82 }) s9 m9 [.ref a.1, .int (nI w)].toArray be9 mt9 c9 H locs 0 0 (MQ be9 (va_Qv (fun (_ : Unit) => True) (fun _ t9 => wPost G A9 (wRw G a (rwDrop r w)) t9) A9) [.ref a.1, .int (nI w)].toArray s9 0 0 A9) (F0 m9 38 ls []) := by
    intro nf
    induction nf with
    | zero => intro k hnf hk; exact absurd hnf (Nat.not_lt_zero _)
    | succ nf ih_38 =>
      intro k hnf hk H locs ls hw hl
      refine lv_iload_n hx hb dX3_drop_38 rfl (lv_at hl 2 rfl) ?_
      refine lv_iconst (v := 4) hx hb dX3_drop_39 (by decide) ?_
      refine lv_icmp_ge (tgt := 60) hx hb dX3_drop_40 (by decide) (fun c_40 => ?_) (fun c_40 => ?_)
      · have hx_40 : 4 ≤ k := ct_ge (k := k) (n := 4) (by omega) (by omega) c_40
        refine lv_aload_n hx hb dX3_drop_60 rfl (lv_at hl 0 rfl) ?_
        refine lv_dup hx hb dX3_drop_61 rfl ?_
        refine r_get (ci := 3) (v := .int (nI ((rwDropK r w k).1))) (C := RX3) (T := TX3) (N := 7) hx hb hts wiX3_drop_drop_X3 hown hK hw 0 rfl rfl 0 (by decide) wmX3_drop_drop_4 (fun _ h9 => h9) rfl dX3_drop_62 ?_
        refine lv_iconst (v := 1) hx hb dX3_drop_65 (by decide) ?_
        refine lv_isub hx hb dX3_drop_66 ?_
        refine r_top (y := nI ((rwDropK r w k).1 - 1)) (pk_sub (a := (rwDropK r w k).1) (b := 1) (by rw [rwDropK_cnt]; omega)) ?_
        refine r_put (ci := 3) (v := .int (nI ((rwDropK r w k).1 - 1))) (ty := .int) (C := RX3) (T := TX3) (N := 7) hx hb hts wiX3_drop_drop_X3 tyX3 tyX3_ok nmX3 hown hK hw 0 rfl rfl 0 (by decide) wmX3_drop_drop_4 (fun _ h9 => h9) rfl (by decide +kernel) rfl rfl (Nat.le_of_ble_eq_true rfl) dX3_drop_67 (ws' := wRw G a ((rwDropK r w k).1 - 1, (rwDropK r w k).2.1, (rwDropK r w k).2.2.1, (rwDropK r w k).2.2.2.1, (rwDropK r w k).2.2.2.2.1, (rwDropK r w k).2.2.2.2.2.1, (rwDropK r w k).2.2.2.2.2.2)) rfl (fun H locs hw => ?_)
        exact m_vret hx hb hr hlocks hK hw (Nat.le_of_ble_eq_true rfl) (Nat.le_of_ble_eq_true rfl) dX3_drop_70 (show wRw G a ((rwDropK r w k).1 - 1, (rwDropK r w k).2.1, (rwDropK r w k).2.2.1, (rwDropK r w k).2.2.2.1, (rwDropK r w k).2.2.2.2.1, (rwDropK r w k).2.2.2.2.2.1, (rwDropK r w k).2.2.2.2.2.2) = wRw G a (rwDrop r w) by rw [show k = 4 by omega]; rfl)
      · have hc_40 : k < 4 := ct_nge (k := k) (n := 4) (by omega) (by omega) c_40
        refine lv_aload_n hx hb dX3_drop_43 rfl (lv_at hl 0 rfl) ?_
        refine lv_aload_n hx hb dX3_drop_44 rfl (lv_at hl 0 rfl) ?_
        refine r_get (ci := 3) (v := .ref a.2.2.2.2.2.2.1) (C := RX3) (T := TX3) (N := 7) hx hb hts wiX3_drop_drop_X3 hown hK hw 0 rfl rfl 6 (by decide) wmX3_drop_drop_5 (fun _ h9 => h9) rfl dX3_drop_45 ?_
        refine lv_iload_n hx hb dX3_drop_48 rfl (lv_at hl 2 rfl) ?_
        refine r_aldM (v := a.2.2.2.2.2.2.2 k) hx hb hK hw 6 rfl k rfl (by omega) (by decide) rfl dX3_drop_49 ?_
        refine lv_iload_n hx hb dX3_drop_50 rfl (lv_at hl 1 rfl) ?_
        have hwc : wW G A9 s9.heap (([] : va_W) ++ ((wRw G a (rwDropK r w k)) ++ ([] : va_W))) H locs := hw
        refine r_callv (u := ([] : va_W)) (w := wRw G a (rwDropK r w k)) (v := ([] : va_W)) (va_runV (As := [.ref (a.2.2.2.2.2.2.2 k), .int (nI w)]) (rest := []) ⟨hx, hb, hml, hown, hts⟩ (c_closeGap_td l G a (rwDropK r w k) w k (by rw [rwDropK_cnt]; exact hwn) (by rw [rwDropK_cnt]; exact hc) (by first | assumption | omega | decide) H.size) (cwV 2 hts gX3_drop_X3_closeGap rfl rfl rfl (by decide +kernel) ⟨Nat.le_of_ble_eq_true rfl, Nat.le_of_ble_eq_true rfl⟩) (r_preV (ci := 3) (q0 := 0) hK hwc rfl rfl rfl) rfl rfl hl.1 rfl (lv_room (Nat.le_of_ble_eq_true rfl)) dX3_drop_51 ⟨Nat.le_of_ble_eq_true rfl, Nat.le_of_ble_eq_true rfl⟩) hwc hA rfl rfl (fun H locs hw => ?_)
        have hw : wW G A9 s9.heap (wRw G a ((rwDropK r w k).1, (rwDropK r w k).2.1, (rwDropK r w k).2.2.1, (rwDropK r w k).2.2.2.1, (rwDropK r w k).2.2.2.2.1, (rwDropK r w k).2.2.2.2.2.1, (updF (rwDropK r w k).2.2.2.2.2.2 k (gap ((rwDropK r w k).2.2.2.2.2.2 k) w (rwDropK r w k).1)))) H locs := hw
        refine lv_iinc (v := nI (k + 1)) (lv' := [(2, .int (nI (k + 1))), (0, .ref a.1), (1, .int (nI w))]) hx hb dX3_drop_54 hl (k := 2) rfl (nI_add k 1) (by decide) rfl (fun ls hl => ?_)
        refine lv_goto (tgt := 38) hx hb dX3_drop_57 (by decide) ?_
        exact ih_38 (k + 1) (by omega) (by first | assumption | omega | rfl) _ _ _ (wW.eq (show wRw G a ((rwDropK r w k).1, (rwDropK r w k).2.1, (rwDropK r w k).2.2.1, (rwDropK r w k).2.2.2.1, (rwDropK r w k).2.2.2.2.1, (rwDropK r w k).2.2.2.2.2.1, (updF (rwDropK r w k).2.2.2.2.2.2 k (gap ((rwDropK r w k).2.2.2.2.2.2 k) w (rwDropK r w k).1))) = wRw G a (rwDropK r w (k + 1)) from rfl) hw) (lv_sub hl [1, 2, 0] rfl)
  exact loop_38 ((4 - 0) + 1) 0 (Nat.lt_succ_self _) (by first | assumption | omega | rfl) _ _ _ (wW.eq (show wRw G a (r.1, (gap r.2.1 w r.1), (gap r.2.2.1 w r.1), (gap r.2.2.2.1 w r.1), (gap r.2.2.2.2.1 w r.1), r.2.2.2.2.2.1, r.2.2.2.2.2.2) = wRw G a (rwDropK r w 0) from rfl) hw) (lv_sub hl [1, 2, 0] rfl)

theorem wiX3_append_append_X3 : ∀ w ∈ wsX30, w ∈ wsX3_append := by decide +kernel
theorem wmX3_append_append_0 : Cond.fieldLink RX3 32 "PartSketch$WishRows" "count" "I" ∈ wsX3_append := by decide +kernel
theorem wmX3_append_append_1 : Cond.fieldLink RX3 9 "PartSketch$WishRows" "kind" "[I" ∈ wsX3_append := by decide +kernel
theorem wmX3_append_append_2 : Cond.fieldLink RX3 15 "PartSketch$WishRows" "one" "[I" ∈ wsX3_append := by decide +kernel
theorem wmX3_append_append_3 : Cond.fieldLink RX3 18 "PartSketch$WishRows" "other" "[I" ∈ wsX3_append := by decide +kernel
theorem wmX3_append_append_4 : Cond.fieldLink RX3 21 "PartSketch$WishRows" "size" "[I" ∈ wsX3_append := by decide +kernel
theorem wmX3_append_append_5 : Cond.fieldLink RX3 29 "PartSketch$WishRows" "told" "[[I" ∈ wsX3_append := by decide +kernel
set_option maxHeartbeats 4000000 in
set_option maxRecDepth 100000 in
/-- WishRows.append -/
theorem c_append (l : Launch) (G : gT) (a : aRw) (r : tRw) (kd : Int32) (i : Nat) (j : Nat) (d : Int32) (hc : r.1 < 40) (sz : Nat) : MI l yX3_append wsX3_append ({ frames := 0, cells := 0, slots := 0, locals := 0 }) G [.ref a.1, .int kd, .int (nI i), .int (nI j), .int d] (wRw G a r) (wRw G a (rwApp r kd i j d)) sz (nI r.1) 0 0 := by
  refine m_of (Qc := fun A9 => (va_Qi (fun (r9 : Int32) (_ : Unit) => r9 = (nI r.1)) (fun _ t9 => wPost G A9 (wRw G a (rwApp r kd i j d)) t9) A9)) (cc := cX3_append) (maxL := 7) (ret := (some .int)) (by decide) rfl (Nat.le_of_ble_eq_true rfl) ?_
  intro p9 e9 s9 m9 A9 be9 mt9 c9 H locs ls hx hb hr hts hown hlocks hin hml hK hA hw hl
  have hl : lv_has ls 7 [(0, .ref a.1), (1, .int kd), (2, .int (nI i)), (3, .int (nI j)), (4, .int d)] := hl
  refine lv_aload_n hx hb dX3_append_0 rfl (lv_at hl 0 rfl) ?_
  refine r_get (ci := 3) (v := .int (nI r.1)) (C := RX3) (T := TX3) (N := 7) hx hb hts wiX3_append_append_X3 hown hK hw 0 rfl rfl 0 (by decide) wmX3_append_append_0 (fun _ h9 => h9) rfl dX3_append_1 ?_
  refine lv_istore (lv' := [(5, .int (nI r.1)), (0, .ref a.1), (1, .int kd), (2, .int (nI i)), (3, .int (nI j)), (4, .int d)]) hx hb dX3_append_4 hl (by decide) rfl (fun ls hl => ?_)
  refine lv_aload_n hx hb dX3_append_6 rfl (lv_at hl 1 rfl) ?_
  refine r_get (ci := 3) (v := .ref a.2.1) (C := RX3) (T := TX3) (N := 7) hx hb hts wiX3_append_append_X3 hown hK hw 0 rfl rfl 1 (by decide) wmX3_append_append_1 (fun _ h9 => h9) rfl dX3_append_7 ?_
  refine lv_iload hx hb dX3_append_10 (lv_at hl 0 rfl) ?_
  refine lv_iload_n hx hb dX3_append_12 rfl (lv_at hl 2 rfl) ?_
  refine r_iast hx hb hK hw 1 rfl r.1 rfl (by omega) (by decide) dX3_append_13 (ws' := wRw G a (r.1, (upd r.2.1 r.1 kd), r.2.2.1, r.2.2.2.1, r.2.2.2.2.1, r.2.2.2.2.2.1, r.2.2.2.2.2.2)) rfl (fun H locs hw => ?_)
  refine lv_aload_n hx hb dX3_append_14 rfl (lv_at hl 1 rfl) ?_
  refine r_get (ci := 3) (v := .ref a.2.2.1) (C := RX3) (T := TX3) (N := 7) hx hb hts wiX3_append_append_X3 hown hK hw 0 rfl rfl 2 (by decide) wmX3_append_append_2 (fun _ h9 => h9) rfl dX3_append_15 ?_
  refine lv_iload hx hb dX3_append_18 (lv_at hl 0 rfl) ?_
  refine lv_iload_n hx hb dX3_append_20 rfl (lv_at hl 3 rfl) ?_
  refine r_iast hx hb hK hw 2 rfl r.1 rfl (by omega) (by decide) dX3_append_21 (ws' := wRw G a (r.1, (upd r.2.1 r.1 kd), (updN r.2.2.1 r.1 i), r.2.2.2.1, r.2.2.2.2.1, r.2.2.2.2.2.1, r.2.2.2.2.2.2)) (by rw [upd_nI]; rfl) (fun H locs hw => ?_)
  refine lv_aload_n hx hb dX3_append_22 rfl (lv_at hl 1 rfl) ?_
  refine r_get (ci := 3) (v := .ref a.2.2.2.1) (C := RX3) (T := TX3) (N := 7) hx hb hts wiX3_append_append_X3 hown hK hw 0 rfl rfl 3 (by decide) wmX3_append_append_3 (fun _ h9 => h9) rfl dX3_append_23 ?_
  refine lv_iload hx hb dX3_append_26 (lv_at hl 0 rfl) ?_
  refine lv_iload_n hx hb dX3_append_28 rfl (lv_at hl 4 rfl) ?_
  refine r_iast hx hb hK hw 3 rfl r.1 rfl (by omega) (by decide) dX3_append_29 (ws' := wRw G a (r.1, (upd r.2.1 r.1 kd), (updN r.2.2.1 r.1 i), (updN r.2.2.2.1 r.1 j), r.2.2.2.2.1, r.2.2.2.2.2.1, r.2.2.2.2.2.2)) (by rw [upd_nI]; rfl) (fun H locs hw => ?_)
  refine lv_aload_n hx hb dX3_append_30 rfl (lv_at hl 1 rfl) ?_
  refine r_get (ci := 3) (v := .ref a.2.2.2.2.1) (C := RX3) (T := TX3) (N := 7) hx hb hts wiX3_append_append_X3 hown hK hw 0 rfl rfl 4 (by decide) wmX3_append_append_4 (fun _ h9 => h9) rfl dX3_append_31 ?_
  refine lv_iload hx hb dX3_append_34 (lv_at hl 0 rfl) ?_
  refine lv_iload hx hb dX3_append_36 (lv_at hl 5 rfl) ?_
  refine r_iast hx hb hK hw 4 rfl r.1 rfl (by omega) (by decide) dX3_append_38 (ws' := wRw G a (r.1, (upd r.2.1 r.1 kd), (updN r.2.2.1 r.1 i), (updN r.2.2.2.1 r.1 j), (upd r.2.2.2.2.1 r.1 d), r.2.2.2.2.2.1, r.2.2.2.2.2.2)) rfl (fun H locs hw => ?_)
  refine lv_iconst (v := 0) hx hb dX3_append_39 (by decide) ?_
  refine lv_istore (lv' := [(6, .int 0), (5, .int (nI r.1)), (0, .ref a.1), (1, .int kd), (2, .int (nI i)), (3, .int (nI j)), (4, .int d)]) hx hb dX3_append_40 hl (by decide) rfl (fun ls hl => ?_)
  have loop_42 : ∀ (nf : Nat) (k : Nat) (hnf : (4 - k) < nf) (hk : k ≤ 4), ∀ (H : Heap) (locs : List Loc) (ls : Array Slot), wW G A9 s9.heap (wRw G a (rwAppK r kd i j d k)) H locs → lv_has ls 7 [(0, .ref a.1), (1, .int kd), (2, .int (nI i)), (3, .int (nI j)), (4, .int d), (5, .int (nI r.1)), (6, .int (nI k))] → W p9 l e9 ({ frames := 0, cells := 0, slots := 0, locals := 0 }) s9 m9 [.ref a.1, .int kd, .int (nI i), .int (nI j), .int d].toArray be9 mt9 c9 H locs 0 0 (MQ be9 (va_Qi (fun (r9 : Int32) (_ : Unit) => r9 = (nI r.1)) (fun _ t9 => wPost G A9 (wRw G a (rwApp r kd i j d)) t9) A9) [.ref a.1, .int kd, .int (nI i), .int (nI j), .int d].toArray s9 0 0 A9) (F0 m9 42 ls []) := by
    intro nf
    induction nf with
    | zero => intro k hnf hk; exact absurd hnf (Nat.not_lt_zero _)
    | succ nf ih_42 =>
      intro k hnf hk H locs ls hw hl
      refine lv_iload hx hb dX3_append_42 (lv_at hl 6 rfl) ?_
      refine lv_iconst (v := 4) hx hb dX3_append_44 (by decide) ?_
      refine lv_icmp_ge (tgt := 66) hx hb dX3_append_45 (by decide) (fun c_45 => ?_) (fun c_45 => ?_)
      · have hx_45 : 4 ≤ k := ct_ge (k := k) (n := 4) (by omega) (by omega) c_45
        refine lv_aload_n hx hb dX3_append_66 rfl (lv_at hl 0 rfl) ?_
        refine lv_dup hx hb dX3_append_67 rfl ?_
        refine r_get (ci := 3) (v := .int (nI ((rwAppK r kd i j d k).1))) (C := RX3) (T := TX3) (N := 7) hx hb hts wiX3_append_append_X3 hown hK hw 0 rfl rfl 0 (by decide) wmX3_append_append_0 (fun _ h9 => h9) rfl dX3_append_68 ?_
        refine lv_iconst (v := 1) hx hb dX3_append_71 (by decide) ?_
        refine lv_iadd hx hb dX3_append_72 ?_
        refine r_top (y := nI (((rwAppK r kd i j d k).1) + 1)) (nI_add ((rwAppK r kd i j d k).1) 1) ?_
        refine r_put (ci := 3) (v := .int (nI (((rwAppK r kd i j d k).1) + 1))) (ty := .int) (C := RX3) (T := TX3) (N := 7) hx hb hts wiX3_append_append_X3 tyX3 tyX3_ok nmX3 hown hK hw 0 rfl rfl 0 (by decide) wmX3_append_append_0 (fun _ h9 => h9) rfl (by decide +kernel) rfl rfl (Nat.le_of_ble_eq_true rfl) dX3_append_73 (ws' := wRw G a (((rwAppK r kd i j d k).1) + 1, (rwAppK r kd i j d k).2.1, (rwAppK r kd i j d k).2.2.1, (rwAppK r kd i j d k).2.2.2.1, (rwAppK r kd i j d k).2.2.2.2.1, (rwAppK r kd i j d k).2.2.2.2.2.1, (rwAppK r kd i j d k).2.2.2.2.2.2)) rfl (fun H locs hw => ?_)
        refine lv_iload hx hb dX3_append_76 (lv_at hl 5 rfl) ?_
        exact m_iret hx hb hr hlocks hK hw (Nat.le_of_ble_eq_true rfl) (Nat.le_of_ble_eq_true rfl) dX3_append_78 (show (nI r.1 : Int32) = nI r.1 by rfl) (show wRw G a (((rwAppK r kd i j d k).1) + 1, (rwAppK r kd i j d k).2.1, (rwAppK r kd i j d k).2.2.1, (rwAppK r kd i j d k).2.2.2.1, (rwAppK r kd i j d k).2.2.2.2.1, (rwAppK r kd i j d k).2.2.2.2.2.1, (rwAppK r kd i j d k).2.2.2.2.2.2) = wRw G a (rwApp r kd i j d) by rw [show k = 4 by omega]; rfl)
      · have hc_45 : k < 4 := ct_nge (k := k) (n := 4) (by omega) (by omega) c_45
        refine lv_aload_n hx hb dX3_append_48 rfl (lv_at hl 0 rfl) ?_
        refine r_get (ci := 3) (v := .ref a.2.2.2.2.2.2.1) (C := RX3) (T := TX3) (N := 7) hx hb hts wiX3_append_append_X3 hown hK hw 0 rfl rfl 6 (by decide) wmX3_append_append_5 (fun _ h9 => h9) rfl dX3_append_49 ?_
        refine lv_iload hx hb dX3_append_52 (lv_at hl 6 rfl) ?_
        refine r_aldM (v := a.2.2.2.2.2.2.2 k) hx hb hK hw 6 rfl k rfl (by omega) (by decide) rfl dX3_append_54 ?_
        refine lv_iload hx hb dX3_append_55 (lv_at hl 5 rfl) ?_
        refine lv_bipush (v := 101) hx hb dX3_append_57 (by decide) ?_
        refine r_iast hx hb hK hw (7 + k) (rw_at (by omega)) r.1 rfl (by omega) (by decide) dX3_append_59 (ws' := wRw G a ((rwAppK r kd i j d k).1, (rwAppK r kd i j d k).2.1, (rwAppK r kd i j d k).2.2.1, (rwAppK r kd i j d k).2.2.2.1, (rwAppK r kd i j d k).2.2.2.2.1, (rwAppK r kd i j d k).2.2.2.2.2.1, (updF ((rwAppK r kd i j d k).2.2.2.2.2.2) k (upd (((rwAppK r kd i j d k).2.2.2.2.2.2) k) r.1 101)))) (rw_set (G := G) (a := a) (r := (rwAppK r kd i j d k)) (f := (upd (((rwAppK r kd i j d k).2.2.2.2.2.2) k) r.1 101)) (v := k) (by omega)) (fun H locs hw => ?_)
        refine lv_iinc (v := nI (k + 1)) (lv' := [(6, .int (nI (k + 1))), (0, .ref a.1), (1, .int kd), (2, .int (nI i)), (3, .int (nI j)), (4, .int d), (5, .int (nI r.1))]) hx hb dX3_append_60 hl (k := 6) rfl (nI_add k 1) (by decide) rfl (fun ls hl => ?_)
        refine lv_goto (tgt := 42) hx hb dX3_append_63 (by decide) ?_
        exact ih_42 (k + 1) (by omega) (by first | assumption | omega | rfl) _ _ _ (wW.eq (show wRw G a ((rwAppK r kd i j d k).1, (rwAppK r kd i j d k).2.1, (rwAppK r kd i j d k).2.2.1, (rwAppK r kd i j d k).2.2.2.1, (rwAppK r kd i j d k).2.2.2.2.1, (rwAppK r kd i j d k).2.2.2.2.2.1, (updF ((rwAppK r kd i j d k).2.2.2.2.2.2) k (upd (((rwAppK r kd i j d k).2.2.2.2.2.2) k) r.1 101))) = wRw G a (rwAppK r kd i j d (k + 1)) from rfl) hw) (lv_sub hl [1, 2, 3, 4, 5, 6, 0] rfl)
  exact loop_42 ((4 - 0) + 1) 0 (Nat.lt_succ_self _) (by first | assumption | omega | rfl) _ _ _ (wW.eq (show wRw G a (r.1, (upd r.2.1 r.1 kd), (updN r.2.2.1 r.1 i), (updN r.2.2.2.1 r.1 j), (upd r.2.2.2.2.1 r.1 d), r.2.2.2.2.2.1, r.2.2.2.2.2.2) = wRw G a (rwAppK r kd i j d 0) from rfl) hw) (lv_sub hl [2, 3, 4, 5, 6, 1, 0] rfl)

theorem wiX3_countTold_countTold_X3 : ∀ w ∈ wsX30, w ∈ wsX3_countTold := by decide +kernel
theorem wmX3_countTold_countTold_0 : Cond.fieldLink RX3 32 "PartSketch$WishRows" "count" "I" ∈ wsX3_countTold := by decide +kernel
theorem wmX3_countTold_countTold_1 : Cond.fieldLink RX3 29 "PartSketch$WishRows" "told" "[[I" ∈ wsX3_countTold := by decide +kernel
set_option maxHeartbeats 4000000 in
set_option maxRecDepth 100000 in
/-- WishRows.countTold -/
theorem c_countTold (l : Launch) (G : gT) (a : aRw) (r : tRw) (v : Nat) (hv : v < 4) (hc : r.1 ≤ 40) (sz : Nat) : MI l yX3_countTold wsX3_countTold ({ frames := 0, cells := 0, slots := 0, locals := 0 }) G [.ref a.1, .int (nI v)] (wRw G a r) (wRw G a r) sz (rwCountK r v r.1) 0 0 := by
  refine m_of (Qc := fun A9 => (va_Qi (fun (r9 : Int32) (_ : Unit) => r9 = (rwCountK r v r.1)) (fun _ t9 => wPost G A9 (wRw G a r) t9) A9)) (cc := cX3_countTold) (maxL := 4) (ret := (some .int)) (by decide) rfl (Nat.le_of_ble_eq_true rfl) ?_
  intro p9 e9 s9 m9 A9 be9 mt9 c9 H locs ls hx hb hr hts hown hlocks hin hml hK hA hw hl
  have hl : lv_has ls 4 [(0, .ref a.1), (1, .int (nI v))] := hl
  refine lv_iconst (v := 0) hx hb dX3_countTold_0 (by decide) ?_
  refine lv_istore_n (lv' := [(2, .int 0), (0, .ref a.1), (1, .int (nI v))]) hx hb dX3_countTold_1 rfl hl (by decide) rfl (fun ls hl => ?_)
  refine lv_iconst (v := 0) hx hb dX3_countTold_2 (by decide) ?_
  refine lv_istore_n (lv' := [(3, .int 0), (2, .int 0), (0, .ref a.1), (1, .int (nI v))]) hx hb dX3_countTold_3 rfl hl (by decide) rfl (fun ls hl => ?_)
  have loop_4 : ∀ (nf : Nat) (k : Nat) (hnf : (r.1 - k) < nf) (hk : k ≤ r.1), ∀ (H : Heap) (locs : List Loc) (ls : Array Slot), wW G A9 s9.heap (wRw G a r) H locs → lv_has ls 4 [(0, .ref a.1), (1, .int (nI v)), (2, .int (rwCountK r v k)), (3, .int (nI k))] → W p9 l e9 ({ frames := 0, cells := 0, slots := 0, locals := 0 }) s9 m9 [.ref a.1, .int (nI v)].toArray be9 mt9 c9 H locs 0 0 (MQ be9 (va_Qi (fun (r9 : Int32) (_ : Unit) => r9 = (rwCountK r v r.1)) (fun _ t9 => wPost G A9 (wRw G a r) t9) A9) [.ref a.1, .int (nI v)].toArray s9 0 0 A9) (F0 m9 4 ls []) := by
    intro nf
    induction nf with
    | zero => intro k hnf hk; exact absurd hnf (Nat.not_lt_zero _)
    | succ nf ih_4 =>
      intro k hnf hk H locs ls hw hl
      refine lv_iload_n hx hb dX3_countTold_4 rfl (lv_at hl 3 rfl) ?_
      refine lv_aload_n hx hb dX3_countTold_5 rfl (lv_at hl 0 rfl) ?_
      refine r_get (ci := 3) (v := .int (nI r.1)) (C := RX3) (T := TX3) (N := 7) hx hb hts wiX3_countTold_countTold_X3 hown hK hw 0 rfl rfl 0 (by decide) wmX3_countTold_countTold_0 (fun _ h9 => h9) rfl dX3_countTold_6 ?_
      refine lv_icmp_ge (tgt := 34) hx hb dX3_countTold_9 (by decide) (fun c_9 => ?_) (fun c_9 => ?_)
      · have hx_9 : r.1 ≤ k := ct_ge (k := k) (n := r.1) (by omega) (by omega) c_9
        refine lv_iload_n hx hb dX3_countTold_34 rfl (lv_at hl 2 rfl) ?_
        exact m_iret hx hb hr hlocks hK hw (Nat.le_of_ble_eq_true rfl) (Nat.le_of_ble_eq_true rfl) dX3_countTold_35 (show (rwCountK r v k : Int32) = rwCountK r v r.1 by rw [show k = r.1 by omega]) rfl
      · have hc_9 : k < r.1 := ct_nge (k := k) (n := r.1) (by omega) (by omega) c_9
        refine lv_aload_n hx hb dX3_countTold_12 rfl (lv_at hl 0 rfl) ?_
        refine r_get (ci := 3) (v := .ref a.2.2.2.2.2.2.1) (C := RX3) (T := TX3) (N := 7) hx hb hts wiX3_countTold_countTold_X3 hown hK hw 0 rfl rfl 6 (by decide) wmX3_countTold_countTold_1 (fun _ h9 => h9) rfl dX3_countTold_13 ?_
        refine lv_iload_n hx hb dX3_countTold_16 rfl (lv_at hl 1 rfl) ?_
        refine r_aldM (v := a.2.2.2.2.2.2.2 v) hx hb hK hw 6 rfl v rfl (by omega) (by decide) rfl dX3_countTold_17 ?_
        refine lv_iload_n hx hb dX3_countTold_18 rfl (lv_at hl 3 rfl) ?_
        refine r_iald (v := (r.2.2.2.2.2.2 v) k) hx hb hK hw (7 + v) (rw_at (by omega)) k rfl (by omega) (by decide) rfl dX3_countTold_19 ?_
        refine lv_bipush (v := 101) hx hb dX3_countTold_20 (by decide) ?_
        refine lv_icmp_eq (tgt := 28) hx hb dX3_countTold_22 (by decide) (fun c_22 => ?_) (fun c_22 => ?_)
        · refine lv_iinc (v := nI (k + 1)) (lv' := [(3, .int (nI (k + 1))), (0, .ref a.1), (1, .int (nI v)), (2, .int (rwCountK r v k))]) hx hb dX3_countTold_28 hl (k := 3) rfl (nI_add k 1) (by decide) rfl (fun ls hl => ?_)
          refine lv_goto (tgt := 4) hx hb dX3_countTold_31 (by decide) ?_
          exact ih_4 (k + 1) (by omega) (by first | assumption | omega | rfl) _ _ _ hw (lv_sub hl [1, 2, 3, 0] (show lv_pick [(3, .int (nI (k + 1))), (0, .ref a.1), (1, .int (nI v)), (2, .int (rwCountK r v k))] [1, 2, 3, 0] = [(0, .ref a.1), (1, .int (nI v)), (2, .int (rwCountK r v (k + 1))), (3, .int (nI (k + 1)))] by simp only [rwCountK, if_pos c_22]; rfl))
        · refine lv_iinc (v := (rwCountK r v k) + 1) (lv' := [(2, .int ((rwCountK r v k) + 1)), (0, .ref a.1), (1, .int (nI v)), (3, .int (nI k))]) hx hb dX3_countTold_25 hl (k := 2) rfl rfl (by decide) rfl (fun ls hl => ?_)
          refine lv_iinc (v := nI (k + 1)) (lv' := [(3, .int (nI (k + 1))), (2, .int ((rwCountK r v k) + 1)), (0, .ref a.1), (1, .int (nI v))]) hx hb dX3_countTold_28 hl (k := 3) rfl (nI_add k 1) (by decide) rfl (fun ls hl => ?_)
          refine lv_goto (tgt := 4) hx hb dX3_countTold_31 (by decide) ?_
          exact ih_4 (k + 1) (by omega) (by first | assumption | omega | rfl) _ _ _ hw (lv_sub hl [2, 3, 1, 0] (show lv_pick [(3, .int (nI (k + 1))), (2, .int ((rwCountK r v k) + 1)), (0, .ref a.1), (1, .int (nI v))] [2, 3, 1, 0] = [(0, .ref a.1), (1, .int (nI v)), (2, .int (rwCountK r v (k + 1))), (3, .int (nI (k + 1)))] by simp only [rwCountK, if_neg c_22]; rfl))
  exact loop_4 ((r.1 - 0) + 1) 0 (Nat.lt_succ_self _) (by first | assumption | omega | rfl) _ _ _ hw (lv_sub hl [2, 3, 1, 0] rfl)

theorem wiX3_takeOver_takeOver_X3 : ∀ w ∈ wsX30, w ∈ wsX3_takeOver := by decide +kernel
theorem wmX3_takeOver_takeOver_0 : Cond.fieldLink RX3 32 "PartSketch$WishRows" "count" "I" ∈ wsX3_takeOver := by decide +kernel
theorem wmX3_takeOver_takeOver_1 : Cond.fieldLink RX3 29 "PartSketch$WishRows" "told" "[[I" ∈ wsX3_takeOver := by decide +kernel
theorem wmX3_takeOver_takeOver_2 : Cond.fieldLink RX3 21 "PartSketch$WishRows" "size" "[I" ∈ wsX3_takeOver := by decide +kernel
set_option maxHeartbeats 4000000 in
set_option maxRecDepth 100000 in
/-- WishRows.takeOver -/
theorem c_takeOver (l : Launch) (G : gT) (a : aRw) (r : tRw) (v : Nat) (hv : v < 4) (hc : r.1 ≤ 40) (sz : Nat) : MI l yX3_takeOver wsX3_takeOver ({ frames := 0, cells := 0, slots := 0, locals := 0 }) G [.ref a.1, .int (nI v)] (wRw G a r) (wRw G a (r.1, r.2.1, r.2.2.1, r.2.2.2.1, (rwTakeK r v r.1).2, r.2.2.2.2.2.1, r.2.2.2.2.2.2)) sz ((rwTakeK r v r.1).1) 0 0 := by
  refine m_of (Qc := fun A9 => (va_Qi (fun (r9 : Int32) (_ : Unit) => r9 = ((rwTakeK r v r.1).1)) (fun _ t9 => wPost G A9 (wRw G a (r.1, r.2.1, r.2.2.1, r.2.2.2.1, (rwTakeK r v r.1).2, r.2.2.2.2.2.1, r.2.2.2.2.2.2)) t9) A9)) (cc := cX3_takeOver) (maxL := 5) (ret := (some .int)) (by decide) rfl (Nat.le_of_ble_eq_true rfl) ?_
  intro p9 e9 s9 m9 A9 be9 mt9 c9 H locs ls hx hb hr hts hown hlocks hin hml hK hA hw hl
  have hl : lv_has ls 5 [(0, .ref a.1), (1, .int (nI v))] := hl
  refine lv_iconst (v := 0) hx hb dX3_takeOver_0 (by decide) ?_
  refine lv_istore_n (lv' := [(2, .int 0), (0, .ref a.1), (1, .int (nI v))]) hx hb dX3_takeOver_1 rfl hl (by decide) rfl (fun ls hl => ?_)
  refine lv_iconst (v := 0) hx hb dX3_takeOver_2 (by decide) ?_
  refine lv_istore_n (lv' := [(3, .int 0), (2, .int 0), (0, .ref a.1), (1, .int (nI v))]) hx hb dX3_takeOver_3 rfl hl (by decide) rfl (fun ls hl => ?_)
  have loop_4 : ∀ (nf : Nat) (k : Nat) (hnf : (r.1 - k) < nf) (hk : k ≤ r.1), ∀ (H : Heap) (locs : List Loc) (ls : Array Slot), wW G A9 s9.heap (wRw G a (r.1, r.2.1, r.2.2.1, r.2.2.2.1, (rwTakeK r v k).2, r.2.2.2.2.2.1, r.2.2.2.2.2.2)) H locs → lv_has ls 5 [(0, .ref a.1), (1, .int (nI v)), (2, .int ((rwTakeK r v k).1)), (3, .int (nI k))] → W p9 l e9 ({ frames := 0, cells := 0, slots := 0, locals := 0 }) s9 m9 [.ref a.1, .int (nI v)].toArray be9 mt9 c9 H locs 0 0 (MQ be9 (va_Qi (fun (r9 : Int32) (_ : Unit) => r9 = ((rwTakeK r v r.1).1)) (fun _ t9 => wPost G A9 (wRw G a (r.1, r.2.1, r.2.2.1, r.2.2.2.1, (rwTakeK r v r.1).2, r.2.2.2.2.2.1, r.2.2.2.2.2.2)) t9) A9) [.ref a.1, .int (nI v)].toArray s9 0 0 A9) (F0 m9 4 ls []) := by
    intro nf
    induction nf with
    | zero => intro k hnf hk; exact absurd hnf (Nat.not_lt_zero _)
    | succ nf ih_4 =>
      intro k hnf hk H locs ls hw hl
      refine lv_iload_n hx hb dX3_takeOver_4 rfl (lv_at hl 3 rfl) ?_
      refine lv_aload_n hx hb dX3_takeOver_5 rfl (lv_at hl 0 rfl) ?_
      refine r_get (ci := 3) (v := .int (nI r.1)) (C := RX3) (T := TX3) (N := 7) hx hb hts wiX3_takeOver_takeOver_X3 hown hK hw 0 rfl rfl 0 (by decide) wmX3_takeOver_takeOver_0 (fun _ h9 => h9) rfl dX3_takeOver_6 ?_
      refine lv_icmp_ge (tgt := 57) hx hb dX3_takeOver_9 (by decide) (fun c_9 => ?_) (fun c_9 => ?_)
      · have hx_9 : r.1 ≤ k := ct_ge (k := k) (n := r.1) (by omega) (by omega) c_9
        refine lv_iload_n hx hb dX3_takeOver_57 rfl (lv_at hl 2 rfl) ?_
        exact m_iret hx hb hr hlocks hK hw (Nat.le_of_ble_eq_true rfl) (Nat.le_of_ble_eq_true rfl) dX3_takeOver_58 (show ((rwTakeK r v k).1 : Int32) = (rwTakeK r v r.1).1 by rw [show k = r.1 by omega]) (show wRw G a (r.1, r.2.1, r.2.2.1, r.2.2.2.1, (rwTakeK r v k).2, r.2.2.2.2.2.1, r.2.2.2.2.2.2) = wRw G a (r.1, r.2.1, r.2.2.1, r.2.2.2.1, (rwTakeK r v r.1).2, r.2.2.2.2.2.1, r.2.2.2.2.2.2) by rw [show k = r.1 by omega])
      · have hc_9 : k < r.1 := ct_nge (k := k) (n := r.1) (by omega) (by omega) c_9
        refine lv_aload_n hx hb dX3_takeOver_12 rfl (lv_at hl 0 rfl) ?_
        refine r_get (ci := 3) (v := .ref a.2.2.2.2.2.2.1) (C := RX3) (T := TX3) (N := 7) hx hb hts wiX3_takeOver_takeOver_X3 hown hK hw 0 rfl rfl 6 (by decide) wmX3_takeOver_takeOver_1 (fun _ h9 => h9) rfl dX3_takeOver_13 ?_
        refine lv_iload_n hx hb dX3_takeOver_16 rfl (lv_at hl 1 rfl) ?_
        refine r_aldM (v := a.2.2.2.2.2.2.2 v) hx hb hK hw 6 rfl v rfl (by omega) (by decide) rfl dX3_takeOver_17 ?_
        refine lv_iload_n hx hb dX3_takeOver_18 rfl (lv_at hl 3 rfl) ?_
        refine r_iald (v := (r.2.2.2.2.2.2 v) k) hx hb hK hw (7 + v) (rw_at (by omega)) k rfl (by omega) (by decide) rfl dX3_takeOver_19 ?_
        refine lv_istore (lv' := [(4, .int ((r.2.2.2.2.2.2 v) k)), (0, .ref a.1), (1, .int (nI v)), (2, .int ((rwTakeK r v k).1)), (3, .int (nI k))]) hx hb dX3_takeOver_20 hl (by decide) rfl (fun ls hl => ?_)
        refine lv_iload hx hb dX3_takeOver_22 (lv_at hl 0 rfl) ?_
        refine lv_bipush (v := 101) hx hb dX3_takeOver_24 (by decide) ?_
        refine lv_icmp_eq (tgt := 51) hx hb dX3_takeOver_26 (by decide) (fun c_26 => ?_) (fun c_26 => ?_)
        · refine lv_iinc (v := nI (k + 1)) (lv' := [(3, .int (nI (k + 1))), (4, .int ((r.2.2.2.2.2.2 v) k)), (0, .ref a.1), (1, .int (nI v)), (2, .int ((rwTakeK r v k).1))]) hx hb dX3_takeOver_51 hl (k := 4) rfl (nI_add k 1) (by decide) rfl (fun ls hl => ?_)
          refine lv_goto (tgt := 4) hx hb dX3_takeOver_54 (by decide) ?_
          exact ih_4 (k + 1) (by omega) (by first | assumption | omega | rfl) _ _ _ (wW.eq (show wRw G a (r.1, r.2.1, r.2.2.1, r.2.2.2.1, (rwTakeK r v k).2, r.2.2.2.2.2.1, r.2.2.2.2.2.2) = wRw G a (r.1, r.2.1, r.2.2.1, r.2.2.2.1, (rwTakeK r v (k + 1)).2, r.2.2.2.2.2.1, r.2.2.2.2.2.2) from (by simp only [rwTakeK, if_pos c_26])) hw) (lv_sub hl [2, 3, 4, 0] (show lv_pick [(3, .int (nI (k + 1))), (4, .int ((r.2.2.2.2.2.2 v) k)), (0, .ref a.1), (1, .int (nI v)), (2, .int ((rwTakeK r v k).1))] [2, 3, 4, 0] = [(0, .ref a.1), (1, .int (nI v)), (2, .int ((rwTakeK r v (k + 1)).1)), (3, .int (nI (k + 1)))] by simp only [rwTakeK, if_pos c_26]; rfl))
        · refine lv_iload hx hb dX3_takeOver_29 (lv_at hl 0 rfl) ?_
          refine lv_aload_n hx hb dX3_takeOver_31 rfl (lv_at hl 1 rfl) ?_
          refine r_get (ci := 3) (v := .ref a.2.2.2.2.1) (C := RX3) (T := TX3) (N := 7) hx hb hts wiX3_takeOver_takeOver_X3 hown hK hw 0 rfl rfl 4 (by decide) wmX3_takeOver_takeOver_2 (fun _ h9 => h9) rfl dX3_takeOver_32 ?_
          refine lv_iload_n hx hb dX3_takeOver_35 rfl (lv_at hl 4 rfl) ?_
          refine r_iald (v := ((rwTakeK r v k).2) k) hx hb hK hw 4 rfl k rfl (by omega) (by decide) rfl dX3_takeOver_36 ?_
          refine lv_icmp_eq (tgt := 51) hx hb dX3_takeOver_37 (by decide) (fun c_37 => ?_) (fun c_37 => ?_)
          · refine lv_iinc (v := nI (k + 1)) (lv' := [(3, .int (nI (k + 1))), (4, .int ((r.2.2.2.2.2.2 v) k)), (0, .ref a.1), (1, .int (nI v)), (2, .int ((rwTakeK r v k).1))]) hx hb dX3_takeOver_51 hl (k := 4) rfl (nI_add k 1) (by decide) rfl (fun ls hl => ?_)
            refine lv_goto (tgt := 4) hx hb dX3_takeOver_54 (by decide) ?_
            exact ih_4 (k + 1) (by omega) (by first | assumption | omega | rfl) _ _ _ (wW.eq (show wRw G a (r.1, r.2.1, r.2.2.1, r.2.2.2.1, (rwTakeK r v k).2, r.2.2.2.2.2.1, r.2.2.2.2.2.2) = wRw G a (r.1, r.2.1, r.2.2.1, r.2.2.2.1, (rwTakeK r v (k + 1)).2, r.2.2.2.2.2.1, r.2.2.2.2.2.2) from (by simp only [rwTakeK, if_neg c_26, if_pos c_37])) hw) (lv_sub hl [2, 3, 4, 0] (show lv_pick [(3, .int (nI (k + 1))), (4, .int ((r.2.2.2.2.2.2 v) k)), (0, .ref a.1), (1, .int (nI v)), (2, .int ((rwTakeK r v k).1))] [2, 3, 4, 0] = [(0, .ref a.1), (1, .int (nI v)), (2, .int ((rwTakeK r v (k + 1)).1)), (3, .int (nI (k + 1)))] by simp only [rwTakeK, if_neg c_26, if_pos c_37]; rfl))
          · refine lv_aload_n hx hb dX3_takeOver_40 rfl (lv_at hl 1 rfl) ?_
            refine r_get (ci := 3) (v := .ref a.2.2.2.2.1) (C := RX3) (T := TX3) (N := 7) hx hb hts wiX3_takeOver_takeOver_X3 hown hK hw 0 rfl rfl 4 (by decide) wmX3_takeOver_takeOver_2 (fun _ h9 => h9) rfl dX3_takeOver_41 ?_
            refine lv_iload_n hx hb dX3_takeOver_44 rfl (lv_at hl 4 rfl) ?_
            refine lv_iload hx hb dX3_takeOver_45 (lv_at hl 0 rfl) ?_
            refine r_iast hx hb hK hw 4 rfl k rfl (by omega) (by decide) dX3_takeOver_47 (ws' := wRw G a (r.1, r.2.1, r.2.2.1, r.2.2.2.1, (upd ((rwTakeK r v k).2) k ((r.2.2.2.2.2.2 v) k)), r.2.2.2.2.2.1, r.2.2.2.2.2.2)) rfl (fun H locs hw => ?_)
            refine lv_iinc (v := ((rwTakeK r v k).1) + 1) (lv' := [(2, .int (((rwTakeK r v k).1) + 1)), (4, .int ((r.2.2.2.2.2.2 v) k)), (0, .ref a.1), (1, .int (nI v)), (3, .int (nI k))]) hx hb dX3_takeOver_48 hl (k := 3) rfl rfl (by decide) rfl (fun ls hl => ?_)
            refine lv_iinc (v := nI (k + 1)) (lv' := [(3, .int (nI (k + 1))), (2, .int (((rwTakeK r v k).1) + 1)), (4, .int ((r.2.2.2.2.2.2 v) k)), (0, .ref a.1), (1, .int (nI v))]) hx hb dX3_takeOver_51 hl (k := 4) rfl (nI_add k 1) (by decide) rfl (fun ls hl => ?_)
            refine lv_goto (tgt := 4) hx hb dX3_takeOver_54 (by decide) ?_
            exact ih_4 (k + 1) (by omega) (by first | assumption | omega | rfl) _ _ _ (wW.eq (show wRw G a (r.1, r.2.1, r.2.2.1, r.2.2.2.1, (upd ((rwTakeK r v k).2) k ((r.2.2.2.2.2.2 v) k)), r.2.2.2.2.2.1, r.2.2.2.2.2.2) = wRw G a (r.1, r.2.1, r.2.2.1, r.2.2.2.1, (rwTakeK r v (k + 1)).2, r.2.2.2.2.2.1, r.2.2.2.2.2.2) from (by simp only [rwTakeK, if_neg c_26, if_neg c_37])) hw) (lv_sub hl [3, 4, 1, 0] (show lv_pick [(3, .int (nI (k + 1))), (2, .int (((rwTakeK r v k).1) + 1)), (4, .int ((r.2.2.2.2.2.2 v) k)), (0, .ref a.1), (1, .int (nI v))] [3, 4, 1, 0] = [(0, .ref a.1), (1, .int (nI v)), (2, .int ((rwTakeK r v (k + 1)).1)), (3, .int (nI (k + 1)))] by simp only [rwTakeK, if_neg c_26, if_neg c_37]; rfl))
  exact loop_4 ((r.1 - 0) + 1) 0 (Nat.lt_succ_self _) (by first | assumption | omega | rfl) _ _ _ (wW.eq (show wRw G a r = wRw G a (r.1, r.2.1, r.2.2.1, r.2.2.2.1, (rwTakeK r v 0).2, r.2.2.2.2.2.1, r.2.2.2.2.2.2) from rfl) hw) (lv_sub hl [2, 3, 1, 0] rfl)
