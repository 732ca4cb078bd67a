/-! PartSketch$Body: what its methods compute, written as they do it -/
def bc1 (z : Int64) : Int64 := z - (((z).toUInt64 >>> ((1 : Int32).toInt64.toUInt64 &&& Int64.toUInt64 63)).toInt64 &&& 6148914691236517205)
def bc2 (z : Int64) : Int64 := (bc1 z &&& 3689348814741910323) + (((bc1 z).toUInt64 >>> ((2 : Int32).toInt64.toUInt64 &&& Int64.toUInt64 63)).toInt64 &&& 3689348814741910323)
def bc3 (z : Int64) : Int64 := (bc2 z + ((bc2 z).toUInt64 >>> ((4 : Int32).toInt64.toUInt64 &&& Int64.toUInt64 63)).toInt64) &&& 1085102592571150095
def bc4 (z : Int64) : Int64 := bc3 z + ((bc3 z).toUInt64 >>> ((8 : Int32).toInt64.toUInt64 &&& Int64.toUInt64 63)).toInt64
def bc5 (z : Int64) : Int64 := bc4 z + ((bc4 z).toUInt64 >>> ((16 : Int32).toInt64.toUInt64 &&& Int64.toUInt64 63)).toInt64
def bc6 (z : Int64) : Int64 := bc5 z + ((bc5 z).toUInt64 >>> ((32 : Int32).toInt64.toUInt64 &&& Int64.toUInt64 63)).toInt64
def bitc (z : Int64) : Int32 := (bc6 z).toInt32 &&& 127
def bdMeasK (x y : tAx) (T : Nat → tBk) : Nat → (Nat → tBk)
  | 0 => T
  | k + 1 => updB (bdMeasK x y T k) k (bkMeas x y (bdMeasK x y T k 0).2.2.1 (bdMeasK x y T k) k)
def bdMeas (x y : tAx) (b : tBd) : tBd := if b.1 = 0 then b else (b.1, b.2.1, b.2.2.1, b.2.2.2.1, bdMeasK x y b.2.2.2.2 (b.2.1 + 1))
/-- what stays of a block that is measured -/
def bkKeep (b c : tBk) : Prop := c.1 = b.1 ∧ c.2.1 = b.2.1 ∧ c.2.2.1 = b.2.2.1 ∧ c.2.2.2.1 = b.2.2.2.1
theorem bkMeas_keep (x y : tAx) (h : Int32) (T : Nat → tBk) (i : Nat) : bkKeep (T i) (bkMeas x y h T i) := by
  unfold bkMeas
  split
  · exact ⟨rfl, rfl, rfl, rfl⟩
  · exact ⟨rfl, rfl, rfl, rfl⟩
theorem bdMeasK_keep (x y : tAx) (T : Nat → tBk) (i : Nat) : ∀ k, bkKeep (T i) (bdMeasK x y T k i)
  | 0 => ⟨rfl, rfl, rfl, rfl⟩
  | k + 1 => by
    have h := bdMeasK_keep x y T i k
    by_cases e : i = k
    · subst e
      have h2 := bkMeas_keep x y (bdMeasK x y T i 0).2.2.1 (bdMeasK x y T i) i
      rw [show bdMeasK x y T (i + 1) i = bkMeas x y (bdMeasK x y T i 0).2.2.1 (bdMeasK x y T i) i from updB_s _ _ _]
      exact ⟨h2.1.trans h.1, h2.2.1.trans h.2.1, h2.2.2.1.trans h.2.2.1, h2.2.2.2.trans h.2.2.2⟩
    · rw [show bdMeasK x y T (k + 1) i = bdMeasK x y T k i from updB_n e]
      exact h
def bdOk (T : Nat → tBk) : Prop := ∀ i, i < 9 → (T i).1 ≤ 15 ∧ (T i).2.1 ≤ 15 ∧ ∀ j, (T i).2.2.2.1 = some j → j < i
theorem bdOk_measK {x y : tAx} {T : Nat → tBk} (h : bdOk T) (k : Nat) : bdOk (bdMeasK x y T k) := fun i hi => by
  obtain ⟨e1, e2, -, e4⟩ := bdMeasK_keep x y T i k
  obtain ⟨h1, h2, h3⟩ := h i hi
  exact ⟨by rw [e1]; exact h1, by rw [e2]; exact h2, fun j hj => h3 j (by rw [← e4]; exact hj)⟩
def bdWhole (b : tBd) : Int32 := if b.1 = 0 then 0 else if (b.2.2.2.2 0).2.2.2.2.2.2.2.2.2 = 0 then bkCells (b.2.2.2.2 0) else 0
/-- a value put in its order among the first places of a row -/
def insA (v : Int32) : Nat → (Nat → Int32) → Nat → Int32
  | 0, f => upd f 0 v
  | k + 1, f => if f k ≤ v then upd f (k + 1) v else insA v k (upd f (k + 1) (f k))
def gsK (T : Nat → tBk) (xs ys : Nat → Int32) : Nat → Nat × (Nat → Int32) × (Nat → Int32)
  | 0 => (0, xs, ys)
  | k + 1 => if (T (1 + k)).2.2.2.2.2.2.2.2.2 = 0 then ((gsK T xs ys k).1 + 2, insA (T (1 + k)).2.2.2.2.2.1 ((gsK T xs ys k).1 + 1) (insA (T (1 + k)).2.2.2.2.1 (gsK T xs ys k).1 (gsK T xs ys k).2.1), insA (T (1 + k)).2.2.2.2.2.2.2.1 ((gsK T xs ys k).1 + 1) (insA (T (1 + k)).2.2.2.2.2.2.1 (gsK T xs ys k).1 (gsK T xs ys k).2.2)) else gsK T xs ys k
theorem gsK_le (T : Nat → tBk) (xs ys : Nat → Int32) : ∀ k, (gsK T xs ys k).1 ≤ 2 * k
  | 0 => Nat.le_refl _
  | k + 1 => by
    have h := gsK_le T xs ys k
    rw [gsK]
    split
    · show (gsK T xs ys k).1 + 2 ≤ _
      omega
    · omega
def ltK (T : Nat → tBk) (u v : Int32) : Nat → Int64
  | 0 => 0
  | k + 1 => if (T (1 + k)).2.2.2.2.2.2.2.2.2 = 0 then (if bkCovers (T (1 + k)) u v = 0 then ltK T u v k else ltK T u v k ||| bkLayers (T (1 + k))) else ltK T u v k
def ddK (T : Nat → tBk) : Nat → Int64
  | 0 => 0
  | k + 1 => if (T (1 + k)).2.2.2.2.2.2.2.2.2 = 0 then ddK T k ||| ((1 : Int64) <<< (((T (1 + k)).2.2.1).toInt64 &&& 63)) else ddK T k
def bdCol (xs ys : Nat → Int32) (i j : Nat) : Int32 := (xs (i + 1) - xs i) * (ys (j + 1) - ys j)
def tkRow (T : Nat → tBk) (np : Nat) (xs ys : Nat → Int32) (i : Nat) (t : Int32) : Nat → Int32
  | 0 => t
  | j + 1 => if bdCol xs ys i j ≤ 0 then tkRow T np xs ys i t j else tkRow T np xs ys i t j + bdCol xs ys i j * bitc (ltK T (xs i) (ys j) np)
def tkAll (T : Nat → tBk) (np : Nat) (xs ys : Nat → Int32) (n : Nat) : Nat → Int32
  | 0 => 0
  | i + 1 => tkRow T np xs ys i (tkAll T np xs ys n i) (n - 1)
def bdGs (b : tBd) : Nat × (Nat → Int32) × (Nat → Int32) := gsK b.2.2.2.2 b.2.2.1 b.2.2.2.1 b.2.1
def bdTaken (b : tBd) : Int32 := tkAll b.2.2.2.2 b.2.1 (bdGs b).2.1 (bdGs b).2.2 (bdGs b).1 ((bdGs b).1 - 1)

theorem wmJ13_bitCount_95d88_bitCount_0 : Cond.constantLong RJ13 314 6148914691236517205 ∈ wsJ13_bitCount_95d88 := by decide +kernel
theorem wmJ13_bitCount_95d88_bitCount_1 : Cond.constantLong RJ13 316 3689348814741910323 ∈ wsJ13_bitCount_95d88 := by decide +kernel
theorem wmJ13_bitCount_95d88_bitCount_2 : Cond.constantLong RJ13 318 1085102592571150095 ∈ wsJ13_bitCount_95d88 := by decide +kernel
set_option maxHeartbeats 4000000 in
set_option maxRecDepth 100000 in
/-- Long.bitCount, as the JDK does it -/
theorem c_bitCount (l : Launch) (G : gT) (z : Int64) (sz : Nat) : MI l yJ13_bitCount_95d88 wsJ13_bitCount_95d88 ({ frames := 0, cells := 0, slots := 0, locals := 0 }) G [.long z] ([] : va_W) ([] : va_W) sz (bitc z) 0 0 := by
  refine m_of (Qc := fun A9 => (va_Qi (fun (r9 : Int32) (_ : Unit) => r9 = (bitc z)) (fun _ t9 => wPost G A9 ([] : va_W) t9) A9)) (cc := cJ13_bitCount_95d88) (maxL := 2) (ret := (some .int)) (by decide) rfl (Nat.le_of_ble_eq_true rfl) ?_
  intro p9 e9 s9 m9 A9 be9 mt9 c9 H locs ls hx hb hr hts hown hlocks hin hml hK hA hw hl
  have hl : lv_has ls 2 [(0, .long z)] := hl
  refine lv_lload_n hx hb dJ13_bitCount_95d88_0 rfl (lv_at hl 0 rfl) ?_
  refine lv_lload_n hx hb dJ13_bitCount_95d88_1 rfl (lv_at hl 0 rfl) ?_
  refine lv_iconst (v := 1) hx hb dJ13_bitCount_95d88_2 (by decide) ?_
  refine lv_lushr (v := ((z).toUInt64 >>> ((1 : Int32).toInt64.toUInt64 &&& Int64.toUInt64 63)).toInt64) hx hb dJ13_bitCount_95d88_3 rfl ?_
  refine lv_ldc2 (v := 6148914691236517205) hx hb hown (hts _ wmJ13_bitCount_95d88_bitCount_0) dJ13_bitCount_95d88_4 ?_
  refine lv_land hx hb dJ13_bitCount_95d88_7 ?_
  refine lv_lsub hx hb dJ13_bitCount_95d88_8 ?_
  refine r_topL (y := bc1 z) rfl ?_
  refine lv_lstore_n (lv' := [(0, .long (bc1 z))]) hx hb dJ13_bitCount_95d88_9 rfl hl (by decide) rfl (fun ls hl => ?_)
  refine lv_lload_n hx hb dJ13_bitCount_95d88_10 rfl (lv_at hl 0 rfl) ?_
  refine lv_ldc2 (v := 3689348814741910323) hx hb hown (hts _ wmJ13_bitCount_95d88_bitCount_1) dJ13_bitCount_95d88_11 ?_
  refine lv_land hx hb dJ13_bitCount_95d88_14 ?_
  refine lv_lload_n hx hb dJ13_bitCount_95d88_15 rfl (lv_at hl 0 rfl) ?_
  refine lv_iconst (v := 2) hx hb dJ13_bitCount_95d88_16 (by decide) ?_
  refine lv_lushr (v := ((bc1 z).toUInt64 >>> ((2 : Int32).toInt64.toUInt64 &&& Int64.toUInt64 63)).toInt64) hx hb dJ13_bitCount_95d88_17 rfl ?_
  refine lv_ldc2 (v := 3689348814741910323) hx hb hown (hts _ wmJ13_bitCount_95d88_bitCount_1) dJ13_bitCount_95d88_18 ?_
  refine lv_land hx hb dJ13_bitCount_95d88_21 ?_
  refine lv_ladd hx hb dJ13_bitCount_95d88_22 ?_
  refine r_topL (y := bc2 z) rfl ?_
  refine lv_lstore_n (lv' := [(0, .long (bc2 z))]) hx hb dJ13_bitCount_95d88_23 rfl hl (by decide) rfl (fun ls hl => ?_)
  refine lv_lload_n hx hb dJ13_bitCount_95d88_24 rfl (lv_at hl 0 rfl) ?_
  refine lv_lload_n hx hb dJ13_bitCount_95d88_25 rfl (lv_at hl 0 rfl) ?_
  refine lv_iconst (v := 4) hx hb dJ13_bitCount_95d88_26 (by decide) ?_
  refine lv_lushr (v := ((bc2 z).toUInt64 >>> ((4 : Int32).toInt64.toUInt64 &&& Int64.toUInt64 63)).toInt64) hx hb dJ13_bitCount_95d88_27 rfl ?_
  refine lv_ladd hx hb dJ13_bitCount_95d88_28 ?_
  refine lv_ldc2 (v := 1085102592571150095) hx hb hown (hts _ wmJ13_bitCount_95d88_bitCount_2) dJ13_bitCount_95d88_29 ?_
  refine lv_land hx hb dJ13_bitCount_95d88_32 ?_
  refine r_topL (y := bc3 z) rfl ?_
  refine lv_lstore_n (lv' := [(0, .long (bc3 z))]) hx hb dJ13_bitCount_95d88_33 rfl hl (by decide) rfl (fun ls hl => ?_)
  refine lv_lload_n hx hb dJ13_bitCount_95d88_34 rfl (lv_at hl 0 rfl) ?_
  refine lv_lload_n hx hb dJ13_bitCount_95d88_35 rfl (lv_at hl 0 rfl) ?_
  refine lv_bipush (v := 8) hx hb dJ13_bitCount_95d88_36 (by decide) ?_
  refine lv_lushr (v := ((bc3 z).toUInt64 >>> ((8 : Int32).toInt64.toUInt64 &&& Int64.toUInt64 63)).toInt64) hx hb dJ13_bitCount_95d88_38 rfl ?_
  refine lv_ladd hx hb dJ13_bitCount_95d88_39 ?_
  refine r_topL (y := bc4 z) rfl ?_
  refine lv_lstore_n (lv' := [(0, .long (bc4 z))]) hx hb dJ13_bitCount_95d88_40 rfl hl (by decide) rfl (fun ls hl => ?_)
  refine lv_lload_n hx hb dJ13_bitCount_95d88_41 rfl (lv_at hl 0 rfl) ?_
  refine lv_lload_n hx hb dJ13_bitCount_95d88_42 rfl (lv_at hl 0 rfl) ?_
  refine lv_bipush (v := 16) hx hb dJ13_bitCount_95d88_43 (by decide) ?_
  refine lv_lushr (v := ((bc4 z).toUInt64 >>> ((16 : Int32).toInt64.toUInt64 &&& Int64.toUInt64 63)).toInt64) hx hb dJ13_bitCount_95d88_45 rfl ?_
  refine lv_ladd hx hb dJ13_bitCount_95d88_46 ?_
  refine r_topL (y := bc5 z) rfl ?_
  refine lv_lstore_n (lv' := [(0, .long (bc5 z))]) hx hb dJ13_bitCount_95d88_47 rfl hl (by decide) rfl (fun ls hl => ?_)
  refine lv_lload_n hx hb dJ13_bitCount_95d88_48 rfl (lv_at hl 0 rfl) ?_
  refine lv_lload_n hx hb dJ13_bitCount_95d88_49 rfl (lv_at hl 0 rfl) ?_
  refine lv_bipush (v := 32) hx hb dJ13_bitCount_95d88_50 (by decide) ?_
  refine lv_lushr (v := ((bc5 z).toUInt64 >>> ((32 : Int32).toInt64.toUInt64 &&& Int64.toUInt64 63)).toInt64) hx hb dJ13_bitCount_95d88_52 rfl ?_
  refine lv_ladd hx hb dJ13_bitCount_95d88_53 ?_
  refine r_topL (y := bc6 z) rfl ?_
  refine lv_lstore_n (lv' := [(0, .long (bc6 z))]) hx hb dJ13_bitCount_95d88_54 rfl hl (by decide) rfl (fun ls hl => ?_)
  refine lv_lload_n hx hb dJ13_bitCount_95d88_55 rfl (lv_at hl 0 rfl) ?_
  refine lv_l2i (v := (bc6 z).toInt32) hx hb dJ13_bitCount_95d88_56 rfl ?_
  refine lv_bipush (v := 127) hx hb dJ13_bitCount_95d88_57 (by decide) ?_
  refine lv_iand hx hb dJ13_bitCount_95d88_59 ?_
  exact m_iret hx hb hr hlocks hK hw (Nat.le_of_ble_eq_true rfl) (Nat.le_of_ble_eq_true rfl) dJ13_bitCount_95d88_60 (show (((bc6 z).toInt32) &&& 127 : Int32) = bitc z by first | rfl | (simp only []; first | done | rfl)) rfl

theorem wiX2_base_base_X2 : ∀ w ∈ wsX20, w ∈ wsX2_base := by decide +kernel
theorem wmX2_base_base_0 : Cond.fieldLink RX2 11 "PartSketch$Body" "blocks" "[LPartSketch$Block;" ∈ wsX2_base := by decide +kernel
set_option maxHeartbeats 4000000 in
set_option maxRecDepth 100000 in
/-- Body.base -/
theorem c_base (l : Launch) (G : gT) (a : aBd) (b : tBd) (sz : Nat) : MR l yX2_base wsX2_base ({ frames := 0, cells := 0, slots := 0, locals := 0 }) G [.ref a.1] (wBd G a b) (wBd G a b) sz (a.2.2.2.2 0) 0 0 := by
  refine m_of (Qc := fun A9 => (va_Qr (fun (_ : Unit) => True) (fun _ a9 t9 => a9 = (a.2.2.2.2 0) ∧ wPost G A9 (wBd G a b) t9) A9)) (cc := cX2_base) (maxL := 1) (ret := (some (.object "PartSketch$Block"))) (by decide) rfl (Nat.le_of_ble_eq_true rfl) ?_
  intro p9 e9 s9 m9 A9 be9 mt9 c9 H locs ls hx hb hr hts hown hlocks hin hml hK hA hw hl
  have hl : lv_has ls 1 [(0, .ref a.1)] := hl
  refine lv_aload_n hx hb dX2_base_0 rfl (lv_at hl 0 rfl) ?_
  refine r_get (ci := 2) (v := .ref a.2.1) (C := RX2) (T := TX2) (N := 5) hx hb hts wiX2_base_base_X2 hown hK hw 0 rfl rfl 2 (by decide) wmX2_base_base_0 (fun _ h9 => h9) rfl dX2_base_1 ?_
  refine lv_iconst (v := 0) hx hb dX2_base_4 (by decide) ?_
  refine r_aldB (v := a.2.2.2.2 0) hx hb hK hw 1 rfl 0 rfl (by omega) (by decide) rfl dX2_base_5 ?_
  exact m_rret hx hb hr (Or.inl ⟨_, rfl⟩) hlocks hK hw (Nat.le_of_ble_eq_true rfl) (Nat.le_of_ble_eq_true rfl) dX2_base_6 rfl rfl

theorem wiX2_pocketAt_pocketAt_X2 : ∀ w ∈ wsX20, w ∈ wsX2_pocketAt := by decide +kernel
theorem wmX2_pocketAt_pocketAt_0 : Cond.fieldLink RX2 11 "PartSketch$Body" "blocks" "[LPartSketch$Block;" ∈ wsX2_pocketAt := by decide +kernel
set_option maxHeartbeats 4000000 in
set_option maxRecDepth 100000 in
/-- Body.pocketAt -/
theorem c_pocketAt (l : Launch) (G : gT) (a : aBd) (b : tBd) (n : Int32) (k : Nat) (hk : 1 + n = nI k) (hk9 : k < 9) (sz : Nat) : MR l yX2_pocketAt wsX2_pocketAt ({ frames := 0, cells := 0, slots := 0, locals := 0 }) G [.ref a.1, .int n] (wBd G a b) (wBd G a b) sz (a.2.2.2.2 k) 0 0 := by
  refine m_of (Qc := fun A9 => (va_Qr (fun (_ : Unit) => True) (fun _ a9 t9 => a9 = (a.2.2.2.2 k) ∧ wPost G A9 (wBd G a b) t9) A9)) (cc := cX2_pocketAt) (maxL := 2) (ret := (some (.object "PartSketch$Block"))) (by decide) rfl (Nat.le_of_ble_eq_true rfl) ?_
  intro p9 e9 s9 m9 A9 be9 mt9 c9 H locs ls hx hb hr hts hown hlocks hin hml hK hA hw hl
  have hl : lv_has ls 2 [(0, .ref a.1), (1, .int n)] := hl
  refine lv_aload_n hx hb dX2_pocketAt_0 rfl (lv_at hl 0 rfl) ?_
  refine r_get (ci := 2) (v := .ref a.2.1) (C := RX2) (T := TX2) (N := 5) hx hb hts wiX2_pocketAt_pocketAt_X2 hown hK hw 0 rfl rfl 2 (by decide) wmX2_pocketAt_pocketAt_0 (fun _ h9 => h9) rfl dX2_pocketAt_1 ?_
  refine lv_iconst (v := 1) hx hb dX2_pocketAt_4 (by decide) ?_
  refine lv_iload_n hx hb dX2_pocketAt_5 rfl (lv_at hl 1 rfl) ?_
  refine lv_iadd hx hb dX2_pocketAt_6 ?_
  refine r_aldB (v := a.2.2.2.2 k) hx hb hK hw 1 rfl k hk (by omega) (by decide) rfl dX2_pocketAt_7 ?_
  exact m_rret hx hb hr (Or.inl ⟨_, rfl⟩) hlocks hK hw (Nat.le_of_ble_eq_true rfl) (Nat.le_of_ble_eq_true rfl) dX2_pocketAt_8 rfl rfl

theorem wiX2_layBase_layBase_X2 : ∀ w ∈ wsX20, w ∈ wsX2_layBase := by decide +kernel
theorem wmX2_layBase_layBase_0 : Cond.fieldLink RX2 33 "PartSketch$Body" "hasBase" "Z" ∈ wsX2_layBase := by decide +kernel
set_option maxHeartbeats 4000000 in
set_option maxRecDepth 100000 in
/-- Body.layBase -/
theorem c_layBase (l : Launch) (G : gT) (a : aBd) (b : tBd) (u : Nat) (v : Nat) (d : Int32) (sz : Nat) : MV l yX2_layBase wsX2_layBase ({ frames := 1, cells := 0, slots := 0, locals := 24 }) G [.ref a.1, .int (nI u), .int (nI v), .int d] (wBd G a b) (wBd G a (1, b.2.1, b.2.2.1, b.2.2.2.1, (updB b.2.2.2.2 0 (u, v, d, none, (b.2.2.2.2 0).2.2.2.2.1, (b.2.2.2.2 0).2.2.2.2.2.1, (b.2.2.2.2 0).2.2.2.2.2.2.1, (b.2.2.2.2 0).2.2.2.2.2.2.2.1, (b.2.2.2.2 0).2.2.2.2.2.2.2.2.1, (b.2.2.2.2 0).2.2.2.2.2.2.2.2.2)))) sz 0 0 := by
  refine m_of (Qc := fun A9 => (va_Qv (fun (_ : Unit) => True) (fun _ t9 => wPost G A9 (wBd G a (1, b.2.1, b.2.2.1, b.2.2.2.1, (updB b.2.2.2.2 0 (u, v, d, none, (b.2.2.2.2 0).2.2.2.2.1, (b.2.2.2.2 0).2.2.2.2.2.1, (b.2.2.2.2 0).2.2.2.2.2.2.1, (b.2.2.2.2 0).2.2.2.2.2.2.2.1, (b.2.2.2.2 0).2.2.2.2.2.2.2.2.1, (b.2.2.2.2 0).2.2.2.2.2.2.2.2.2)))) t9) A9)) (cc := cX2_layBase) (maxL := 4) (ret := none) (by decide) rfl (Nat.le_of_ble_eq_true rfl) ?_
  intro p9 e9 s9 m9 A9 be9 mt9 c9 H locs ls hx hb hr hts hown hlocks hin hml hK hA hw hl
  have hl : lv_has ls 4 [(0, .ref a.1), (1, .int (nI u)), (2, .int (nI v)), (3, .int d)] := hl
  refine lv_aload_n hx hb dX2_layBase_0 rfl (lv_at hl 0 rfl) ?_
  have hwc : wW G A9 s9.heap (([] : va_W) ++ ((wBd G a b) ++ ([] : va_W))) H locs := hw
  refine r_callr (res := (a.2.2.2.2 0)) (u := ([] : va_W)) (w := wBd G a b) (v := ([] : va_W)) (va_runV (As := []) (rest := []) ⟨hx, hb, hml, hown, hts⟩ (c_base l G a b H.size) (cwV 0 hts gX2_layBase_X2_base rfl rfl rfl (by decide +kernel) ⟨Nat.le_of_ble_eq_true rfl, Nat.le_of_ble_eq_true rfl⟩) (r_preV (ci := 2) (q0 := 0) hK hwc rfl rfl rfl) rfl rfl hl.1 rfl (lv_room (Nat.le_of_ble_eq_true rfl)) dX2_layBase_1 ⟨Nat.le_of_ble_eq_true rfl, Nat.le_of_ble_eq_true rfl⟩) hwc hA rfl rfl (fun H locs hw => ?_)
  have hw : wW G A9 s9.heap (wBd G a b) H locs := hw
  refine lv_iload_n hx hb dX2_layBase_4 rfl (lv_at hl 1 rfl) ?_
  refine lv_iload_n hx hb dX2_layBase_5 rfl (lv_at hl 2 rfl) ?_
  refine lv_iload_n hx hb dX2_layBase_6 rfl (lv_at hl 3 rfl) ?_
  refine lv_null hx hb dX2_layBase_7 ?_
  have hwc : wW G A9 s9.heap (([] : va_W) ++ ((wBd G a b) ++ ([] : va_W))) H locs := hw
  have hrv : (wBd G a b)[(4 + 0)]? = some (a.2.2.2.2 0, cBk a.2.2.2.2 (b.2.2.2.2 0)) := bd_at (by omega)
  refine r_callv (u := ([] : va_W)) (w := wBd G a b) (v := ([] : va_W)) (va_runV (As := [.int (nI u), .int (nI v), .int d, .null]) (rest := []) ⟨hx, hb, hml, hown, hts⟩ (c_put0 l G a b 0 u v d (by first | assumption | omega | decide) H.size) (cwV 4 hts gX2_layBase_X1_put rfl rfl rfl (by decide +kernel) ⟨Nat.le_of_ble_eq_true rfl, Nat.le_of_ble_eq_true rfl⟩) (r_preV (ci := 1) (q0 := (4 + 0)) hK hwc hrv rfl rfl) rfl rfl hl.1 rfl (lv_room (Nat.le_of_ble_eq_true rfl)) dX2_layBase_8 ⟨Nat.le_of_ble_eq_true rfl, Nat.le_of_ble_eq_true rfl⟩) hwc hA rfl rfl (fun H locs hw => ?_)
  have hw : wW G A9 s9.heap (wBd G a (b.1, b.2.1, b.2.2.1, b.2.2.2.1, (updB b.2.2.2.2 0 (u, v, d, none, (b.2.2.2.2 0).2.2.2.2.1, (b.2.2.2.2 0).2.2.2.2.2.1, (b.2.2.2.2 0).2.2.2.2.2.2.1, (b.2.2.2.2 0).2.2.2.2.2.2.2.1, (b.2.2.2.2 0).2.2.2.2.2.2.2.2.1, (b.2.2.2.2 0).2.2.2.2.2.2.2.2.2)))) H locs := hw
  refine lv_aload_n hx hb dX2_layBase_11 rfl (lv_at hl 0 rfl) ?_
  refine lv_iconst (v := 1) hx hb dX2_layBase_12 (by decide) ?_
  refine r_put (ci := 2) (v := .int 1) (ty := .boolean) (C := RX2) (T := TX2) (N := 5) hx hb hts wiX2_layBase_layBase_X2 tyX2 tyX2_ok nmX2 hown hK hw 0 rfl rfl 0 (by decide) wmX2_layBase_layBase_0 (fun _ h9 => h9) rfl (by decide +kernel) (by rfl) (by rfl) (Nat.le_of_ble_eq_true rfl) dX2_layBase_13 (ws' := wBd G a (1, b.2.1, b.2.2.1, b.2.2.2.1, (updB b.2.2.2.2 0 (u, v, d, none, (b.2.2.2.2 0).2.2.2.2.1, (b.2.2.2.2 0).2.2.2.2.2.1, (b.2.2.2.2 0).2.2.2.2.2.2.1, (b.2.2.2.2 0).2.2.2.2.2.2.2.1, (b.2.2.2.2 0).2.2.2.2.2.2.2.2.1, (b.2.2.2.2 0).2.2.2.2.2.2.2.2.2)))) rfl (fun H locs hw => ?_)
  exact m_vret hx hb hr hlocks hK hw (Nat.le_of_ble_eq_true rfl) (Nat.le_of_ble_eq_true rfl) dX2_layBase_16 rfl

theorem wiX2_addPocket_addPocket_X2 : ∀ w ∈ wsX20, w ∈ wsX2_addPocket := by decide +kernel
theorem wmX2_addPocket_addPocket_0 : Cond.fieldLink RX2 37 "PartSketch$Body" "pockets" "I" ∈ wsX2_addPocket := by decide +kernel
set_option maxHeartbeats 4000000 in
set_option maxRecDepth 100000 in
/-- Body.addPocket -/
theorem c_addPocket (l : Launch) (G : gT) (a : aBd) (b : tBd) (u : Nat) (v : Nat) (d : Int32) (inn : Int32) (q : Nat) (hn : b.2.1 < 8) (hq : 1 + inn = nI q) (hq9 : q < 9) (sz : Nat) : MI l yX2_addPocket wsX2_addPocket ({ frames := 1, cells := 0, slots := 0, locals := 24 }) G [.ref a.1, .int (nI u), .int (nI v), .int d, .int inn] (wBd G a b) (wBd G a (b.1, b.2.1 + 1, b.2.2.1, b.2.2.2.1, (updB b.2.2.2.2 (1 + b.2.1) (u, v, d, some q, (b.2.2.2.2 (1 + b.2.1)).2.2.2.2.1, (b.2.2.2.2 (1 + b.2.1)).2.2.2.2.2.1, (b.2.2.2.2 (1 + b.2.1)).2.2.2.2.2.2.1, (b.2.2.2.2 (1 + b.2.1)).2.2.2.2.2.2.2.1, (b.2.2.2.2 (1 + b.2.1)).2.2.2.2.2.2.2.2.1, (b.2.2.2.2 (1 + b.2.1)).2.2.2.2.2.2.2.2.2)))) sz (nI b.2.1) 0 0 := by
  refine m_of (Qc := fun A9 => (va_Qi (fun (r9 : Int32) (_ : Unit) => r9 = (nI b.2.1)) (fun _ t9 => wPost G A9 (wBd G a (b.1, b.2.1 + 1, b.2.2.1, b.2.2.2.1, (updB b.2.2.2.2 (1 + b.2.1) (u, v, d, some q, (b.2.2.2.2 (1 + b.2.1)).2.2.2.2.1, (b.2.2.2.2 (1 + b.2.1)).2.2.2.2.2.1, (b.2.2.2.2 (1 + b.2.1)).2.2.2.2.2.2.1, (b.2.2.2.2 (1 + b.2.1)).2.2.2.2.2.2.2.1, (b.2.2.2.2 (1 + b.2.1)).2.2.2.2.2.2.2.2.1, (b.2.2.2.2 (1 + b.2.1)).2.2.2.2.2.2.2.2.2)))) t9) A9)) (cc := cX2_addPocket) (maxL := 6) (ret := (some .int)) (by decide) rfl (Nat.le_of_ble_eq_true rfl) ?_
  intro p9 e9 s9 m9 A9 be9 mt9 c9 H locs ls hx hb hr hts hown hlocks hin hml hK hA hw hl
  have hl : lv_has ls 6 [(0, .ref a.1), (1, .int (nI u)), (2, .int (nI v)), (3, .int d), (4, .int inn)] := hl
  refine lv_aload_n hx hb dX2_addPocket_0 rfl (lv_at hl 0 rfl) ?_
  refine r_get (ci := 2) (v := .int (nI b.2.1)) (C := RX2) (T := TX2) (N := 5) hx hb hts wiX2_addPocket_addPocket_X2 hown hK hw 0 rfl rfl 1 (by decide) wmX2_addPocket_addPocket_0 (fun _ h9 => h9) rfl dX2_addPocket_1 ?_
  refine lv_istore (lv' := [(5, .int (nI b.2.1)), (0, .ref a.1), (1, .int (nI u)), (2, .int (nI v)), (3, .int d), (4, .int inn)]) hx hb dX2_addPocket_4 hl (by decide) rfl (fun ls hl => ?_)
  refine lv_aload_n hx hb dX2_addPocket_6 rfl (lv_at hl 1 rfl) ?_
  refine lv_iload hx hb dX2_addPocket_7 (lv_at hl 0 rfl) ?_
  have hwc : wW G A9 s9.heap (([] : va_W) ++ ((wBd G a b) ++ ([] : va_W))) H locs := hw
  refine r_callr (res := (a.2.2.2.2 (1 + b.2.1))) (u := ([] : va_W)) (w := wBd G a b) (v := ([] : va_W)) (va_runV (As := [.int (nI b.2.1)]) (rest := []) ⟨hx, hb, hml, hown, hts⟩ (c_pocketAt l G a b (nI b.2.1) (1 + b.2.1) (nI_add 1 b.2.1) (by first | assumption | omega | decide) H.size) (cwV 1 hts gX2_addPocket_X2_pocketAt rfl rfl rfl (by decide +kernel) ⟨Nat.le_of_ble_eq_true rfl, Nat.le_of_ble_eq_true rfl⟩) (r_preV (ci := 2) (q0 := 0) hK hwc rfl rfl rfl) rfl rfl hl.1 rfl (lv_room (Nat.le_of_ble_eq_true rfl)) dX2_addPocket_9 ⟨Nat.le_of_ble_eq_true rfl, Nat.le_of_ble_eq_true rfl⟩) hwc hA rfl rfl (fun H locs hw => ?_)
  have hw : wW G A9 s9.heap (wBd G a b) H locs := hw
  refine lv_iload_n hx hb dX2_addPocket_12 rfl (lv_at hl 2 rfl) ?_
  refine lv_iload_n hx hb dX2_addPocket_13 rfl (lv_at hl 3 rfl) ?_
  refine lv_iload_n hx hb dX2_addPocket_14 rfl (lv_at hl 4 rfl) ?_
  refine lv_aload_n hx hb dX2_addPocket_15 rfl (lv_at hl 1 rfl) ?_
  refine lv_iload hx hb dX2_addPocket_16 (lv_at hl 5 rfl) ?_
  have hwc : wW G A9 s9.heap (([] : va_W) ++ ((wBd G a b) ++ ([] : va_W))) H locs := hw
  refine r_callr (res := (a.2.2.2.2 q)) (u := ([] : va_W)) (w := wBd G a b) (v := ([] : va_W)) (va_runV (As := [.int inn]) (rest := [.int d, .int (nI v), .int (nI u), .ref (a.2.2.2.2 (1 + b.2.1))]) ⟨hx, hb, hml, hown, hts⟩ (c_pocketAt l G a b inn q hq (by first | assumption | omega | decide) H.size) (cwV 1 hts gX2_addPocket_X2_pocketAt rfl rfl rfl (by decide +kernel) ⟨Nat.le_of_ble_eq_true rfl, Nat.le_of_ble_eq_true rfl⟩) (r_preV (ci := 2) (q0 := 0) hK hwc rfl rfl rfl) rfl rfl hl.1 rfl (lv_room (Nat.le_of_ble_eq_true rfl)) dX2_addPocket_18 ⟨Nat.le_of_ble_eq_true rfl, Nat.le_of_ble_eq_true rfl⟩) hwc hA rfl rfl (fun H locs hw => ?_)
  have hw : wW G A9 s9.heap (wBd G a b) H locs := hw
  have hwc : wW G A9 s9.heap (([] : va_W) ++ ((wBd G a b) ++ ([] : va_W))) H locs := hw
  have hrv : (wBd G a b)[(4 + (1 + b.2.1))]? = some (a.2.2.2.2 (1 + b.2.1), cBk a.2.2.2.2 (b.2.2.2.2 (1 + b.2.1))) := bd_at (by omega)
  refine r_callv (u := ([] : va_W)) (w := wBd G a b) (v := ([] : va_W)) (va_runV (As := [.int (nI u), .int (nI v), .int d, .ref (a.2.2.2.2 q)]) (rest := []) ⟨hx, hb, hml, hown, hts⟩ (c_putq l G a b (1 + b.2.1) u v d q (by first | assumption | omega | decide) H.size) (cwV 4 hts gX2_addPocket_X1_put rfl rfl rfl (by decide +kernel) ⟨Nat.le_of_ble_eq_true rfl, Nat.le_of_ble_eq_true rfl⟩) (r_preV (ci := 1) (q0 := (4 + (1 + b.2.1))) hK hwc hrv rfl rfl) rfl rfl hl.1 rfl (lv_room (Nat.le_of_ble_eq_true rfl)) dX2_addPocket_21 ⟨Nat.le_of_ble_eq_true rfl, Nat.le_of_ble_eq_true rfl⟩) hwc hA rfl rfl (fun H locs hw => ?_)
  have hw : wW G A9 s9.heap (wBd G a (b.1, b.2.1, b.2.2.1, b.2.2.2.1, (updB b.2.2.2.2 (1 + b.2.1) (u, v, d, some q, (b.2.2.2.2 (1 + b.2.1)).2.2.2.2.1, (b.2.2.2.2 (1 + b.2.1)).2.2.2.2.2.1, (b.2.2.2.2 (1 + b.2.1)).2.2.2.2.2.2.1, (b.2.2.2.2 (1 + b.2.1)).2.2.2.2.2.2.2.1, (b.2.2.2.2 (1 + b.2.1)).2.2.2.2.2.2.2.2.1, (b.2.2.2.2 (1 + b.2.1)).2.2.2.2.2.2.2.2.2)))) H locs := hw
  refine lv_aload_n hx hb dX2_addPocket_24 rfl (lv_at hl 1 rfl) ?_
  refine lv_dup hx hb dX2_addPocket_25 rfl ?_
  refine r_get (ci := 2) (v := .int (nI b.2.1)) (C := RX2) (T := TX2) (N := 5) hx hb hts wiX2_addPocket_addPocket_X2 hown hK hw 0 rfl rfl 1 (by decide) wmX2_addPocket_addPocket_0 (fun _ h9 => h9) rfl dX2_addPocket_26 ?_
  refine lv_iconst (v := 1) hx hb dX2_addPocket_29 (by decide) ?_
  refine lv_iadd hx hb dX2_addPocket_30 ?_
  refine r_top (y := nI (b.2.1 + 1)) (nI_add b.2.1 1) ?_
  refine r_put (ci := 2) (v := .int (nI (b.2.1 + 1))) (ty := .int) (C := RX2) (T := TX2) (N := 5) hx hb hts wiX2_addPocket_addPocket_X2 tyX2 tyX2_ok nmX2 hown hK hw 0 rfl rfl 1 (by decide) wmX2_addPocket_addPocket_0 (fun _ h9 => h9) rfl (by decide +kernel) rfl rfl (Nat.le_of_ble_eq_true rfl) dX2_addPocket_31 (ws' := wBd G a (b.1, b.2.1 + 1, b.2.2.1, b.2.2.2.1, (updB b.2.2.2.2 (1 + b.2.1) (u, v, d, some q, (b.2.2.2.2 (1 + b.2.1)).2.2.2.2.1, (b.2.2.2.2 (1 + b.2.1)).2.2.2.2.2.1, (b.2.2.2.2 (1 + b.2.1)).2.2.2.2.2.2.1, (b.2.2.2.2 (1 + b.2.1)).2.2.2.2.2.2.2.1, (b.2.2.2.2 (1 + b.2.1)).2.2.2.2.2.2.2.2.1, (b.2.2.2.2 (1 + b.2.1)).2.2.2.2.2.2.2.2.2)))) rfl (fun H locs hw => ?_)
  refine lv_iload hx hb dX2_addPocket_34 (lv_at hl 0 rfl) ?_
  exact m_iret hx hb hr hlocks hK hw (Nat.le_of_ble_eq_true rfl) (Nat.le_of_ble_eq_true rfl) dX2_addPocket_36 (show (nI b.2.1 : Int32) = nI b.2.1 by rfl) rfl

theorem wiX2_measure_bdmeas_X1 : ∀ w ∈ wsX10, w ∈ wsX2_measure := by decide +kernel
theorem wiX2_measure_bdmeas_X2 : ∀ w ∈ wsX20, w ∈ wsX2_measure := by decide +kernel
theorem wmX2_measure_bdmeas_0 : Cond.fieldLink RX2 33 "PartSketch$Body" "hasBase" "Z" ∈ wsX2_measure := by decide +kernel
theorem wmX2_measure_bdmeas_1 : Cond.fieldLink RX2 37 "PartSketch$Body" "pockets" "I" ∈ wsX2_measure := by decide +kernel
theorem wmX2_measure_bdmeas_2 : Cond.fieldLink RX2 45 "PartSketch$Block" "depth" "I" ∈ wsX2_measure := by decide +kernel
set_option maxHeartbeats 4000000 in
set_option maxRecDepth 100000 in
/-- Body.measure -/
theorem c_bdmeas (l : Launch) (G : gT) (ax : aAx) (x : tAx) (ay : aAx) (y : tAx) (a : aBd) (b : tBd) (hn : b.2.1 ≤ 8) (hok : bdOk b.2.2.2.2) (sz : Nat) : MV l yX2_measure wsX2_measure ({ frames := 2, cells := 0, slots := 0, locals := 48 }) G [.ref a.1, .ref ax.1, .ref ay.1] (wAx G ax x ++ (wAx G ay y ++ (wBd G a b))) (wAx G ax x ++ (wAx G ay y ++ (wBd G a (bdMeas x y b)))) sz 0 0 := by
  refine m_of (Qc := fun A9 => (va_Qv (fun (_ : Unit) => True) (fun _ t9 => wPost G A9 (wAx G ax x ++ (wAx G ay y ++ (wBd G a (bdMeas x y b)))) t9) A9)) (cc := cX2_measure) (maxL := 4) (ret := none) (by decide) rfl (Nat.le_of_ble_eq_true rfl) ?_
  intro p9 e9 s9 m9 A9 be9 mt9 c9 H locs ls hx hb hr hts hown hlocks hin hml hK hA hw hl
  have hl : lv_has ls 4 [(0, .ref a.1), (1, .ref ax.1), (2, .ref ay.1)] := hl
  refine lv_aload_n hx hb dX2_measure_0 rfl (lv_at hl 0 rfl) ?_
  refine r_get (ci := 2) (v := .int b.1) (C := RX2) (T := TX2) (N := 5) hx hb hts wiX2_measure_bdmeas_X2 hown hK hw 8 rfl rfl 0 (by decide) wmX2_measure_bdmeas_0 (fun _ h9 => h9) rfl dX2_measure_1 ?_
  refine lv_if_ne (tgt := 8) hx hb dX2_measure_4 (by decide) (fun c_4 => ?_) (fun c_4 => ?_)
  · refine lv_iconst (v := (-1)) hx hb dX2_measure_8 (by decide) ?_
    refine lv_istore_n (lv' := [(3, .int (-1)), (0, .ref a.1), (1, .ref ax.1), (2, .ref ay.1)]) hx hb dX2_measure_9 rfl hl (by decide) rfl (fun ls hl => ?_)
    have loop_10 : ∀ (nf : Nat) (k : Nat) (hnf : (b.2.1 + 1 - k) < nf) (hk : k ≤ b.2.1 + 1), ∀ (H : Heap) (locs : List Loc) (ls : Array Slot), wW G A9 s9.heap (wAx G ax x ++ (wAx G ay y ++ (wBd G a (b.1, b.2.1, b.2.2.1, b.2.2.2.1, (bdMeasK x y b.2.2.2.2 k))))) H locs → lv_has ls 4 [(0, .ref a.1), (1, .ref ax.1), (2, .ref ay.1), (3, .int (nI k - 1))] → W p9 l e9 ({ frames := 2, cells := 0, slots := 0, locals := 48 }) s9 m9 [.ref a.1, .ref ax.1, .ref ay.1].toArray be9 mt9 c9 H locs 0 0 (MQ be9 (va_Qv (fun (_ : Unit) => True) (fun _ t9 => wPost G A9 (wAx G ax x ++ (wAx G ay y ++ (wBd G a (bdMeas x y b)))) t9) A9) [.ref a.1, .ref ax.1, .ref ay.1].toArray s9 0 0 A9) (F0 m9 10 ls []) := by
      intro nf
      induction nf with
      | zero => intro k hnf hk; exact absurd hnf (Nat.not_lt_zero _)
      | succ nf ih_10 =>
        intro k hnf hk H locs ls hw hl
        refine lv_iload_n hx hb dX2_measure_10 rfl (lv_at hl 3 rfl) ?_
        refine lv_aload_n hx hb dX2_measure_11 rfl (lv_at hl 0 rfl) ?_
        refine r_get (ci := 2) (v := .int (nI b.2.1)) (C := RX2) (T := TX2) (N := 5) hx hb hts wiX2_measure_bdmeas_X2 hown hK hw 8 rfl rfl 1 (by decide) wmX2_measure_bdmeas_1 (fun _ h9 => h9) rfl dX2_measure_12 ?_
        refine lv_icmp_ge (tgt := 41) hx hb dX2_measure_15 (by decide) (fun c_15 => ?_) (fun c_15 => ?_)
        · have hx_15 : b.2.1 + 1 ≤ k := (nm_ge (by omega) (by omega)).mp c_15
          exact m_vret hx hb hr hlocks hK hw (Nat.le_of_ble_eq_true rfl) (Nat.le_of_ble_eq_true rfl) dX2_measure_41 (show wAx G ax x ++ (wAx G ay y ++ (wBd G a (b.1, b.2.1, b.2.2.1, b.2.2.2.1, (bdMeasK x y b.2.2.2.2 k)))) = wAx G ax x ++ (wAx G ay y ++ (wBd G a (bdMeas x y b))) by unfold bdMeas; rw [if_neg c_4, show k = b.2.1 + 1 by omega])
        · have hc_15 : ¬ b.2.1 + 1 ≤ k := fun h => c_15 ((nm_ge (by omega) (by omega)).mpr h)
          have hmk := bdOk_measK (x := x) (y := y) hok k k (by omega)
          refine lv_aload_n hx hb dX2_measure_18 rfl (lv_at hl 0 rfl) ?_
          refine lv_iload_n hx hb dX2_measure_19 rfl (lv_at hl 3 rfl) ?_
          have hwc : wW G A9 s9.heap ((wAx G ax x ++ (wAx G ay y)) ++ ((wBd G a (b.1, b.2.1, b.2.2.1, b.2.2.2.1, (bdMeasK x y b.2.2.2.2 k))) ++ ([] : va_W))) H locs := hw
          refine r_callr (res := (a.2.2.2.2 k)) (u := wAx G ax x ++ (wAx G ay y)) (w := wBd G a (b.1, b.2.1, b.2.2.1, b.2.2.2.1, (bdMeasK x y b.2.2.2.2 k))) (v := ([] : va_W)) (va_runV (As := [.int (nI k - 1)]) (rest := []) ⟨hx, hb, hml, hown, hts⟩ (c_pocketAt l G a (b.1, b.2.1, b.2.2.1, b.2.2.2.1, (bdMeasK x y b.2.2.2.2 k)) (nI k - 1) k (nm_p k) (by first | assumption | omega | decide) H.size) (cwV 1 hts gX2_measure_X2_pocketAt rfl rfl rfl (by decide +kernel) ⟨Nat.le_of_ble_eq_true rfl, Nat.le_of_ble_eq_true rfl⟩) (r_preV (ci := 2) (q0 := 8) hK hwc rfl rfl rfl) rfl rfl hl.1 rfl (lv_room (Nat.le_of_ble_eq_true rfl)) dX2_measure_20 ⟨Nat.le_of_ble_eq_true rfl, Nat.le_of_ble_eq_true rfl⟩) hwc hA rfl rfl (fun H locs hw => ?_)
          have hw : wW G A9 s9.heap (wAx G ax x ++ (wAx G ay y ++ (wBd G a (b.1, b.2.1, b.2.2.1, b.2.2.2.1, (bdMeasK x y b.2.2.2.2 k))))) H locs := hw
          refine lv_aload_n hx hb dX2_measure_23 rfl (lv_at hl 1 rfl) ?_
          refine lv_aload_n hx hb dX2_measure_24 rfl (lv_at hl 2 rfl) ?_
          refine lv_aload_n hx hb dX2_measure_25 rfl (lv_at hl 0 rfl) ?_
          have hwc : wW G A9 s9.heap ((wAx G ax x ++ (wAx G ay y)) ++ ((wBd G a (b.1, b.2.1, b.2.2.1, b.2.2.2.1, (bdMeasK x y b.2.2.2.2 k))) ++ ([] : va_W))) H locs := hw
          refine r_callr (res := (a.2.2.2.2 0)) (u := wAx G ax x ++ (wAx G ay y)) (w := wBd G a (b.1, b.2.1, b.2.2.1, b.2.2.2.1, (bdMeasK x y b.2.2.2.2 k))) (v := ([] : va_W)) (va_runV (As := []) (rest := [.ref ay.1, .ref ax.1, .ref (a.2.2.2.2 k)]) ⟨hx, hb, hml, hown, hts⟩ (c_base l G a (b.1, b.2.1, b.2.2.1, b.2.2.2.1, (bdMeasK x y b.2.2.2.2 k)) H.size) (cwV 0 hts gX2_measure_X2_base rfl rfl rfl (by decide +kernel) ⟨Nat.le_of_ble_eq_true rfl, Nat.le_of_ble_eq_true rfl⟩) (r_preV (ci := 2) (q0 := 8) hK hwc rfl rfl rfl) rfl rfl hl.1 rfl (lv_room (Nat.le_of_ble_eq_true rfl)) dX2_measure_26 ⟨Nat.le_of_ble_eq_true rfl, Nat.le_of_ble_eq_true rfl⟩) hwc hA rfl rfl (fun H locs hw => ?_)
          have hw : wW G A9 s9.heap (wAx G ax x ++ (wAx G ay y ++ (wBd G a (b.1, b.2.1, b.2.2.1, b.2.2.2.1, (bdMeasK x y b.2.2.2.2 k))))) H locs := hw
          refine r_get (ci := 1) (v := .int (((bdMeasK x y b.2.2.2.2 k) 0).2.2.1)) (C := RX1) (T := TX1) (N := 10) hx hb hts wiX2_measure_bdmeas_X1 hown hK hw (12 + 0) ((at_skip (n := 4) (j := 8 + 0) rfl (by omega)).trans ((at_skip (n := 4) (j := 4 + 0) rfl (by omega)).trans (bd_at (by omega)))) rfl 2 (by decide) wmX2_measure_bdmeas_2 (fun _ h9 => h9) rfl dX2_measure_29 ?_
          have hwc : wW G A9 s9.heap (([] : va_W) ++ ((wAx G ax x ++ (wAx G ay y ++ (wBd G a (b.1, b.2.1, b.2.2.1, b.2.2.2.1, (bdMeasK x y b.2.2.2.2 k))))) ++ ([] : va_W))) H locs := hw
          have hrv : (wAx G ax x ++ (wAx G ay y ++ (wBd G a (b.1, b.2.1, b.2.2.1, b.2.2.2.1, (bdMeasK x y b.2.2.2.2 k)))))[(12 + k)]? = some (a.2.2.2.2 k, cBk a.2.2.2.2 ((bdMeasK x y b.2.2.2.2 k) k)) := (at_skip (n := 4) (j := 8 + k) rfl (by omega)).trans ((at_skip (n := 4) (j := 4 + k) rfl (by omega)).trans (bd_at (by omega)))
          refine r_callv (u := ([] : va_W)) (w := wAx G ax x ++ (wAx G ay y ++ (wBd G a (b.1, b.2.1, b.2.2.1, b.2.2.2.1, (bdMeasK x y b.2.2.2.2 k))))) (v := ([] : va_W)) (va_runV (As := [.ref ax.1, .ref ay.1, .int (((bdMeasK x y b.2.2.2.2 k) 0).2.2.1)]) (rest := []) ⟨hx, hb, hml, hown, hts⟩ (c_meas l G ax x ay y a (b.1, b.2.1, b.2.2.1, b.2.2.2.1, (bdMeasK x y b.2.2.2.2 k)) k (((bdMeasK x y b.2.2.2.2 k) 0).2.2.1) (by first | assumption | omega | decide) hmk.1 hmk.2.1 hmk.2.2 H.size) (cwV 3 hts gX2_measure_X1_measure rfl rfl rfl (by decide +kernel) ⟨Nat.le_of_ble_eq_true rfl, Nat.le_of_ble_eq_true rfl⟩) (r_preV (ci := 1) (q0 := (12 + k)) hK hwc hrv rfl rfl) rfl rfl hl.1 rfl (lv_room (Nat.le_of_ble_eq_true rfl)) dX2_measure_32 ⟨Nat.le_of_ble_eq_true rfl, Nat.le_of_ble_eq_true rfl⟩) hwc hA rfl rfl (fun H locs hw => ?_)
          have hw : wW G A9 s9.heap (wAx G ax x ++ (wAx G ay y ++ (wBd G a (b.1, b.2.1, b.2.2.1, b.2.2.2.1, (updB (bdMeasK x y b.2.2.2.2 k) k (bkMeas x y (((bdMeasK x y b.2.2.2.2 k) 0).2.2.1) (bdMeasK x y b.2.2.2.2 k) k)))))) H locs := hw
          refine lv_iinc (v := (nI k - 1) + 1) (lv' := [(3, .int ((nI k - 1) + 1)), (0, .ref a.1), (1, .ref ax.1), (2, .ref ay.1)]) hx hb dX2_measure_35 hl (k := 3) rfl rfl (by decide) rfl (fun ls hl => ?_)
          refine lv_goto (tgt := 10) hx hb dX2_measure_38 (by decide) ?_
          exact ih_10 (k + 1) (by omega) (by first | assumption | omega | rfl) _ _ _ (wW.eq (show wAx G ax x ++ (wAx G ay y ++ (wBd G a (b.1, b.2.1, b.2.2.1, b.2.2.2.1, (updB (bdMeasK x y b.2.2.2.2 k) k (bkMeas x y (((bdMeasK x y b.2.2.2.2 k) 0).2.2.1) (bdMeasK x y b.2.2.2.2 k) k))))) = wAx G ax x ++ (wAx G ay y ++ (wBd G a (b.1, b.2.1, b.2.2.1, b.2.2.2.1, (bdMeasK x y b.2.2.2.2 (k + 1))))) from rfl) hw) (lv_sub hl [1, 2, 3, 0] (show lv_pick [(3, .int ((nI k - 1) + 1)), (0, .ref a.1), (1, .ref ax.1), (2, .ref ay.1)] [1, 2, 3, 0] = [(0, .ref a.1), (1, .ref ax.1), (2, .ref ay.1), (3, .int (nI (k + 1) - 1))] by rw [nm1]; rfl))
    exact loop_10 ((b.2.1 + 1 - 0) + 1) 0 (Nat.lt_succ_self _) (by first | assumption | omega | rfl) _ _ _ (wW.eq (show wAx G ax x ++ (wAx G ay y ++ (wBd G a b)) = wAx G ax x ++ (wAx G ay y ++ (wBd G a (b.1, b.2.1, b.2.2.1, b.2.2.2.1, (bdMeasK x y b.2.2.2.2 0)))) from rfl) hw) (lv_sub hl [1, 2, 3, 0] rfl)
  · exact m_vret hx hb hr hlocks hK hw (Nat.le_of_ble_eq_true rfl) (Nat.le_of_ble_eq_true rfl) dX2_measure_7 (show wAx G ax x ++ (wAx G ay y ++ (wBd G a b)) = wAx G ax x ++ (wAx G ay y ++ (wBd G a (bdMeas x y b))) by unfold bdMeas; rw [if_pos c_4])

theorem wiX2_wholeCells_whole_X1 : ∀ w ∈ wsX10, w ∈ wsX2_wholeCells := by decide +kernel
theorem wiX2_wholeCells_whole_X2 : ∀ w ∈ wsX20, w ∈ wsX2_wholeCells := by decide +kernel
theorem wmX2_wholeCells_whole_0 : Cond.fieldLink RX2 33 "PartSketch$Body" "hasBase" "Z" ∈ wsX2_wholeCells := by decide +kernel
theorem wmX2_wholeCells_whole_1 : Cond.fieldLink RX2 52 "PartSketch$Block" "failing" "Z" ∈ wsX2_wholeCells := by decide +kernel
set_option maxHeartbeats 4000000 in
set_option maxRecDepth 100000 in
/-- Body.wholeCells -/
theorem c_whole (l : Launch) (G : gT) (a : aBd) (b : tBd) (sz : Nat) : MI l yX2_wholeCells wsX2_wholeCells ({ frames := 1, cells := 0, slots := 0, locals := 20 }) G [.ref a.1] (wBd G a b) (wBd G a b) sz (bdWhole b) 0 0 := by
  refine m_of (Qc := fun A9 => (va_Qi (fun (r9 : Int32) (_ : Unit) => r9 = (bdWhole b)) (fun _ t9 => wPost G A9 (wBd G a b) t9) A9)) (cc := cX2_wholeCells) (maxL := 1) (ret := (some .int)) (by decide) rfl (Nat.le_of_ble_eq_true rfl) ?_
  intro p9 e9 s9 m9 A9 be9 mt9 c9 H locs ls hx hb hr hts hown hlocks hin hml hK hA hw hl
  have hl : lv_has ls 1 [(0, .ref a.1)] := hl
  refine lv_aload_n hx hb dX2_wholeCells_0 rfl (lv_at hl 0 rfl) ?_
  refine r_get (ci := 2) (v := .int b.1) (C := RX2) (T := TX2) (N := 5) hx hb hts wiX2_wholeCells_whole_X2 hown hK hw 0 rfl rfl 0 (by decide) wmX2_wholeCells_whole_0 (fun _ h9 => h9) rfl dX2_wholeCells_1 ?_
  refine lv_if_eq (tgt := 27) hx hb dX2_wholeCells_4 (by decide) (fun c_4 => ?_) (fun c_4 => ?_)
  · refine lv_iconst (v := 0) hx hb dX2_wholeCells_27 (by decide) ?_
    exact m_iret hx hb hr hlocks hK hw (Nat.le_of_ble_eq_true rfl) (Nat.le_of_ble_eq_true rfl) dX2_wholeCells_28 (show (0 : Int32) = bdWhole b by first | rfl | (simp only [bdWhole, if_pos c_4]; first | done | rfl)) rfl
  · refine lv_aload_n hx hb dX2_wholeCells_7 rfl (lv_at hl 0 rfl) ?_
    have hwc : wW G A9 s9.heap (([] : va_W) ++ ((wBd G a b) ++ ([] : va_W))) H locs := hw
    refine r_callr (res := (a.2.2.2.2 0)) (u := ([] : va_W)) (w := wBd G a b) (v := ([] : va_W)) (va_runV (As := []) (rest := []) ⟨hx, hb, hml, hown, hts⟩ (c_base l G a b H.size) (cwV 0 hts gX2_wholeCells_X2_base rfl rfl rfl (by decide +kernel) ⟨Nat.le_of_ble_eq_true rfl, Nat.le_of_ble_eq_true rfl⟩) (r_preV (ci := 2) (q0 := 0) hK hwc rfl rfl rfl) rfl rfl hl.1 rfl (lv_room (Nat.le_of_ble_eq_true rfl)) dX2_wholeCells_8 ⟨Nat.le_of_ble_eq_true rfl, Nat.le_of_ble_eq_true rfl⟩) hwc hA rfl rfl (fun H locs hw => ?_)
    have hw : wW G A9 s9.heap (wBd G a b) H locs := hw
    refine r_get (ci := 1) (v := .int ((b.2.2.2.2 0).2.2.2.2.2.2.2.2.2)) (C := RX1) (T := TX1) (N := 10) hx hb hts wiX2_wholeCells_whole_X1 hown hK hw (4 + 0) (bd_at (by omega)) rfl 9 (by decide) wmX2_wholeCells_whole_1 (fun _ h9 => h9) rfl dX2_wholeCells_11 ?_
    refine lv_if_ne (tgt := 27) hx hb dX2_wholeCells_14 (by decide) (fun c_14 => ?_) (fun c_14 => ?_)
    · refine lv_iconst (v := 0) hx hb dX2_wholeCells_27 (by decide) ?_
      exact m_iret hx hb hr hlocks hK hw (Nat.le_of_ble_eq_true rfl) (Nat.le_of_ble_eq_true rfl) dX2_wholeCells_28 (show (0 : Int32) = bdWhole b by first | rfl | (simp only [bdWhole, if_neg c_4, if_neg c_14]; first | done | rfl)) rfl
    · refine lv_aload_n hx hb dX2_wholeCells_17 rfl (lv_at hl 0 rfl) ?_
      have hwc : wW G A9 s9.heap (([] : va_W) ++ ((wBd G a b) ++ ([] : va_W))) H locs := hw
      refine r_callr (res := (a.2.2.2.2 0)) (u := ([] : va_W)) (w := wBd G a b) (v := ([] : va_W)) (va_runV (As := []) (rest := []) ⟨hx, hb, hml, hown, hts⟩ (c_base l G a b H.size) (cwV 0 hts gX2_wholeCells_X2_base rfl rfl rfl (by decide +kernel) ⟨Nat.le_of_ble_eq_true rfl, Nat.le_of_ble_eq_true rfl⟩) (r_preV (ci := 2) (q0 := 0) hK hwc rfl rfl rfl) rfl rfl hl.1 rfl (lv_room (Nat.le_of_ble_eq_true rfl)) dX2_wholeCells_18 ⟨Nat.le_of_ble_eq_true rfl, Nat.le_of_ble_eq_true rfl⟩) hwc hA rfl rfl (fun H locs hw => ?_)
      have hw : wW G A9 s9.heap (wBd G a b) H locs := hw
      have hwc : wW G A9 s9.heap (([] : va_W) ++ ((wBd G a b) ++ ([] : va_W))) H locs := hw
      have hrv : (wBd G a b)[(4 + 0)]? = some (a.2.2.2.2 0, cBk a.2.2.2.2 (b.2.2.2.2 0)) := bd_at (by omega)
      refine r_calli (res := (bkCells (b.2.2.2.2 0))) (u := ([] : va_W)) (w := wBd G a b) (v := ([] : va_W)) (va_runV (As := []) (rest := []) ⟨hx, hb, hml, hown, hts⟩ (c_cells l G a b 0 (by first | assumption | omega | decide) H.size) (cwV 0 hts gX2_wholeCells_X1_cells rfl rfl rfl (by decide +kernel) ⟨Nat.le_of_ble_eq_true rfl, Nat.le_of_ble_eq_true rfl⟩) (r_preV (ci := 1) (q0 := (4 + 0)) hK hwc hrv rfl rfl) rfl rfl hl.1 rfl (lv_room (Nat.le_of_ble_eq_true rfl)) dX2_wholeCells_21 ⟨Nat.le_of_ble_eq_true rfl, Nat.le_of_ble_eq_true rfl⟩) hwc hA rfl rfl (fun H locs hw => ?_)
      have hw : wW G A9 s9.heap (wBd G a b) H locs := hw
      refine lv_goto (tgt := 28) hx hb dX2_wholeCells_24 (by decide) ?_
      exact m_iret hx hb hr hlocks hK hw (Nat.le_of_ble_eq_true rfl) (Nat.le_of_ble_eq_true rfl) dX2_wholeCells_28 (show (bkCells (b.2.2.2.2 0) : Int32) = bdWhole b by first | rfl | (simp only [bdWhole, if_neg c_4, if_pos c_14]; first | done | rfl)) rfl

set_option maxHeartbeats 4000000 in
set_option maxRecDepth 100000 in
/-- Body.insertSorted -/
theorem c_insx (l : Launch) (G : gT) (a : aBd) (b : tBd) (n : Nat) (v : Int32) (hn : n < 16) (sz : Nat) : MV l yX2_insertSorted wsX2_insertSorted ({ frames := 0, cells := 0, slots := 0, locals := 0 }) G [.ref a.2.2.1, .int (nI n), .int v] (wBd G a b) (wBd G a (b.1, b.2.1, (insA v n b.2.2.1), b.2.2.2.1, b.2.2.2.2)) sz 0 0 := by
  refine m_of (Qc := fun A9 => (va_Qv (fun (_ : Unit) => True) (fun _ t9 => wPost G A9 (wBd G a (b.1, b.2.1, (insA v n b.2.2.1), b.2.2.2.1, b.2.2.2.2)) t9) A9)) (cc := cX2_insertSorted) (maxL := 4) (ret := none) (by decide) rfl (Nat.le_of_ble_eq_true rfl) ?_
  intro p9 e9 s9 m9 A9 be9 mt9 c9 H locs ls hx hb hr hts hown hlocks hin hml hK hA hw hl
  have hl : lv_has ls 4 [(0, .ref a.2.2.1), (1, .int (nI n)), (2, .int v)] := hl
  refine lv_iload_n hx hb dX2_insertSorted_0 rfl (lv_at hl 1 rfl) ?_
  refine lv_istore_n (lv' := [(3, .int (nI n)), (0, .ref a.2.2.1), (1, .int (nI n)), (2, .int v)]) hx hb dX2_insertSorted_1 rfl hl (by decide) rfl (fun ls hl => ?_)
  have loop_2 : ∀ (nf : Nat) (t : Nat) (f : Nat → Int32) (hnf : t < nf) (ht : t ≤ n) (hF : insA v t f = insA v n b.2.2.1), ∀ (H : Heap) (locs : List Loc) (ls : Array Slot), wW G A9 s9.heap (wBd G a (b.1, b.2.1, f, b.2.2.2.1, b.2.2.2.2)) H locs → lv_has ls 4 [(0, .ref a.2.2.1), (1, .int (nI n)), (2, .int v), (3, .int (nI t))] → W p9 l e9 ({ frames := 0, cells := 0, slots := 0, locals := 0 }) s9 m9 [.ref a.2.2.1, .int (nI n), .int v].toArray be9 mt9 c9 H locs 0 0 (MQ be9 (va_Qv (fun (_ : Unit) => True) (fun _ t9 => wPost G A9 (wBd G a (b.1, b.2.1, (insA v n b.2.2.1), b.2.2.2.1, b.2.2.2.2)) t9) A9) [.ref a.2.2.1, .int (nI n), .int v].toArray s9 0 0 A9) (F0 m9 2 ls []) := by
    intro nf
    induction nf with
    | zero => intro t f hnf ht hF; exact absurd hnf (Nat.not_lt_zero _)
    | succ nf ih_2 =>
      intro t f hnf ht hF H locs ls hw hl
      refine lv_iload_n hx hb dX2_insertSorted_2 rfl (lv_at hl 3 rfl) ?_
      refine lv_if_le (tgt := 29) hx hb dX2_insertSorted_3 (by decide) (fun c_3 => ?_) (fun c_3 => ?_)
      · have ht0 : t = 0 := by have h := (nI_leI (a := t) (b := 0) (by omega) (by omega)).mp c_3; omega
        refine lv_aload_n hx hb dX2_insertSorted_29 rfl (lv_at hl 0 rfl) ?_
        refine lv_iload_n hx hb dX2_insertSorted_30 rfl (lv_at hl 3 rfl) ?_
        refine lv_iload_n hx hb dX2_insertSorted_31 rfl (lv_at hl 2 rfl) ?_
        refine r_iast hx hb hK hw 2 rfl t rfl (by omega) (by decide) dX2_insertSorted_32 (ws' := wBd G a (b.1, b.2.1, (upd f t v), b.2.2.2.1, b.2.2.2.2)) rfl (fun H locs hw => ?_)
        exact m_vret hx hb hr hlocks hK hw (Nat.le_of_ble_eq_true rfl) (Nat.le_of_ble_eq_true rfl) dX2_insertSorted_33 (show wBd G a (b.1, b.2.1, (upd f t v), b.2.2.2.1, b.2.2.2.2) = wBd G a (b.1, b.2.1, (insA v n b.2.2.1), b.2.2.2.1, b.2.2.2.2) by rw [← hF, ht0]; rfl)
      · have ht1 : 0 < t := by rcases Nat.eq_zero_or_pos t with h | h; exact absurd (by rw [h]; decide) c_3; exact h
        obtain ⟨q, rfl⟩ : ∃ q, t = q + 1 := ⟨t - 1, by omega⟩
        refine lv_aload_n hx hb dX2_insertSorted_6 rfl (lv_at hl 0 rfl) ?_
        refine lv_iload_n hx hb dX2_insertSorted_7 rfl (lv_at hl 3 rfl) ?_
        refine lv_iconst (v := 1) hx hb dX2_insertSorted_8 (by decide) ?_
        refine lv_isub hx hb dX2_insertSorted_9 ?_
        refine r_top (y := nI q) (nI_pred q) ?_
        refine r_iald (v := f q) hx hb hK hw 2 rfl q rfl (by omega) (by decide) rfl dX2_insertSorted_10 ?_
        refine lv_iload_n hx hb dX2_insertSorted_11 rfl (lv_at hl 2 rfl) ?_
        refine lv_icmp_le (tgt := 29) hx hb dX2_insertSorted_12 (by decide) (fun c_12 => ?_) (fun c_12 => ?_)
        · refine lv_aload_n hx hb dX2_insertSorted_29 rfl (lv_at hl 0 rfl) ?_
          refine lv_iload_n hx hb dX2_insertSorted_30 rfl (lv_at hl 3 rfl) ?_
          refine lv_iload_n hx hb dX2_insertSorted_31 rfl (lv_at hl 2 rfl) ?_
          refine r_iast hx hb hK hw 2 rfl (q + 1) rfl (by omega) (by decide) dX2_insertSorted_32 (ws' := wBd G a (b.1, b.2.1, (upd f (q + 1) v), b.2.2.2.1, b.2.2.2.2)) rfl (fun H locs hw => ?_)
          exact m_vret hx hb hr hlocks hK hw (Nat.le_of_ble_eq_true rfl) (Nat.le_of_ble_eq_true rfl) dX2_insertSorted_33 (show wBd G a (b.1, b.2.1, (upd f (q + 1) v), b.2.2.2.1, b.2.2.2.2) = wBd G a (b.1, b.2.1, (insA v n b.2.2.1), b.2.2.2.1, b.2.2.2.2) by rw [← hF]; show _ = wBd G a (_, _, if f q ≤ v then _ else _, _, _); unfold insA; rw [if_pos c_12])
        · refine lv_aload_n hx hb dX2_insertSorted_15 rfl (lv_at hl 0 rfl) ?_
          refine lv_iload_n hx hb dX2_insertSorted_16 rfl (lv_at hl 3 rfl) ?_
          refine lv_aload_n hx hb dX2_insertSorted_17 rfl (lv_at hl 0 rfl) ?_
          refine lv_iload_n hx hb dX2_insertSorted_18 rfl (lv_at hl 3 rfl) ?_
          refine lv_iconst (v := 1) hx hb dX2_insertSorted_19 (by decide) ?_
          refine lv_isub hx hb dX2_insertSorted_20 ?_
          refine r_top (y := nI q) (nI_pred q) ?_
          refine r_iald (v := f q) hx hb hK hw 2 rfl q rfl (by omega) (by decide) rfl dX2_insertSorted_21 ?_
          refine r_iast hx hb hK hw 2 rfl (q + 1) rfl (by omega) (by decide) dX2_insertSorted_22 (ws' := wBd G a (b.1, b.2.1, (upd f (q + 1) (f q)), b.2.2.2.1, b.2.2.2.2)) rfl (fun H locs hw => ?_)
          refine lv_iinc (v := nI q) (lv' := [(3, .int (nI q)), (0, .ref a.2.2.1), (1, .int (nI n)), (2, .int v)]) hx hb dX2_insertSorted_23 hl (k := 3) rfl (pk_m1 q) (by decide) rfl (fun ls hl => ?_)
          refine lv_goto (tgt := 2) hx hb dX2_insertSorted_26 (by decide) ?_
          exact ih_2 q (upd f (q + 1) (f q)) (by omega) (by omega) (by rw [← hF]; exact (if_neg c_12).symm) _ _ _ hw (lv_sub hl [1, 2, 3, 0] rfl)
  exact loop_2 (n + 1) n b.2.2.1 (Nat.lt_succ_self _) (by first | assumption | omega | rfl) (by first | assumption | omega | rfl) _ _ _ hw (lv_sub hl [1, 2, 3, 0] rfl)

set_option maxHeartbeats 4000000 in
set_option maxRecDepth 100000 in
/-- Body.insertSorted -/
theorem c_insy (l : Launch) (G : gT) (a : aBd) (b : tBd) (n : Nat) (v : Int32) (hn : n < 16) (sz : Nat) : MV l yX2_insertSorted wsX2_insertSorted ({ frames := 0, cells := 0, slots := 0, locals := 0 }) G [.ref a.2.2.2.1, .int (nI n), .int v] (wBd G a b) (wBd G a (b.1, b.2.1, b.2.2.1, (insA v n b.2.2.2.1), b.2.2.2.2)) sz 0 0 := by
  refine m_of (Qc := fun A9 => (va_Qv (fun (_ : Unit) => True) (fun _ t9 => wPost G A9 (wBd G a (b.1, b.2.1, b.2.2.1, (insA v n b.2.2.2.1), b.2.2.2.2)) t9) A9)) (cc := cX2_insertSorted) (maxL := 4) (ret := none) (by decide) rfl (Nat.le_of_ble_eq_true rfl) ?_
  intro p9 e9 s9 m9 A9 be9 mt9 c9 H locs ls hx hb hr hts hown hlocks hin hml hK hA hw hl
  have hl : lv_has ls 4 [(0, .ref a.2.2.2.1), (1, .int (nI n)), (2, .int v)] := hl
  refine lv_iload_n hx hb dX2_insertSorted_0 rfl (lv_at hl 1 rfl) ?_
  refine lv_istore_n (lv' := [(3, .int (nI n)), (0, .ref a.2.2.2.1), (1, .int (nI n)), (2, .int v)]) hx hb dX2_insertSorted_1 rfl hl (by decide) rfl (fun ls hl => ?_)
  have loop_2 : ∀ (nf : Nat) (t : Nat) (f : Nat → Int32) (hnf : t < nf) (ht : t ≤ n) (hF : insA v t f = insA v n b.2.2.2.1), ∀ (H : Heap) (locs : List Loc) (ls : Array Slot), wW G A9 s9.heap (wBd G a (b.1, b.2.1, b.2.2.1, f, b.2.2.2.2)) H locs → lv_has ls 4 [(0, .ref a.2.2.2.1), (1, .int (nI n)), (2, .int v), (3, .int (nI t))] → W p9 l e9 ({ frames := 0, cells := 0, slots := 0, locals := 0 }) s9 m9 [.ref a.2.2.2.1, .int (nI n), .int v].toArray be9 mt9 c9 H locs 0 0 (MQ be9 (va_Qv (fun (_ : Unit) => True) (fun _ t9 => wPost G A9 (wBd G a (b.1, b.2.1, b.2.2.1, (insA v n b.2.2.2.1), b.2.2.2.2)) t9) A9) [.ref a.2.2.2.1, .int (nI n), .int v].toArray s9 0 0 A9) (F0 m9 2 ls []) := by
    intro nf
    induction nf with
    | zero => intro t f hnf ht hF; exact absurd hnf (Nat.not_lt_zero _)
    | succ nf ih_2 =>
      intro t f hnf ht hF H locs ls hw hl
      refine lv_iload_n hx hb dX2_insertSorted_2 rfl (lv_at hl 3 rfl) ?_
      refine lv_if_le (tgt := 29) hx hb dX2_insertSorted_3 (by decide) (fun c_3 => ?_) (fun c_3 => ?_)
      · have ht0 : t = 0 := by have h := (nI_leI (a := t) (b := 0) (by omega) (by omega)).mp c_3; omega
        refine lv_aload_n hx hb dX2_insertSorted_29 rfl (lv_at hl 0 rfl) ?_
        refine lv_iload_n hx hb dX2_insertSorted_30 rfl (lv_at hl 3 rfl) ?_
        refine lv_iload_n hx hb dX2_insertSorted_31 rfl (lv_at hl 2 rfl) ?_
        refine r_iast hx hb hK hw 3 rfl t rfl (by omega) (by decide) dX2_insertSorted_32 (ws' := wBd G a (b.1, b.2.1, b.2.2.1, (upd f t v), b.2.2.2.2)) rfl (fun H locs hw => ?_)
        exact m_vret hx hb hr hlocks hK hw (Nat.le_of_ble_eq_true rfl) (Nat.le_of_ble_eq_true rfl) dX2_insertSorted_33 (show wBd G a (b.1, b.2.1, b.2.2.1, (upd f t v), b.2.2.2.2) = wBd G a (b.1, b.2.1, b.2.2.1, (insA v n b.2.2.2.1), b.2.2.2.2) by rw [← hF, ht0]; rfl)
      · have ht1 : 0 < t := by rcases Nat.eq_zero_or_pos t with h | h; exact absurd (by rw [h]; decide) c_3; exact h
        obtain ⟨q, rfl⟩ : ∃ q, t = q + 1 := ⟨t - 1, by omega⟩
        refine lv_aload_n hx hb dX2_insertSorted_6 rfl (lv_at hl 0 rfl) ?_
        refine lv_iload_n hx hb dX2_insertSorted_7 rfl (lv_at hl 3 rfl) ?_
        refine lv_iconst (v := 1) hx hb dX2_insertSorted_8 (by decide) ?_
        refine lv_isub hx hb dX2_insertSorted_9 ?_
        refine r_top (y := nI q) (nI_pred q) ?_
        refine r_iald (v := f q) hx hb hK hw 3 rfl q rfl (by omega) (by decide) rfl dX2_insertSorted_10 ?_
        refine lv_iload_n hx hb dX2_insertSorted_11 rfl (lv_at hl 2 rfl) ?_
        refine lv_icmp_le (tgt := 29) hx hb dX2_insertSorted_12 (by decide) (fun c_12 => ?_) (fun c_12 => ?_)
        · refine lv_aload_n hx hb dX2_insertSorted_29 rfl (lv_at hl 0 rfl) ?_
          refine lv_iload_n hx hb dX2_insertSorted_30 rfl (lv_at hl 3 rfl) ?_
          refine lv_iload_n hx hb dX2_insertSorted_31 rfl (lv_at hl 2 rfl) ?_
          refine r_iast hx hb hK hw 3 rfl (q + 1) rfl (by omega) (by decide) dX2_insertSorted_32 (ws' := wBd G a (b.1, b.2.1, b.2.2.1, (upd f (q + 1) v), b.2.2.2.2)) rfl (fun H locs hw => ?_)
          exact m_vret hx hb hr hlocks hK hw (Nat.le_of_ble_eq_true rfl) (Nat.le_of_ble_eq_true rfl) dX2_insertSorted_33 (show wBd G a (b.1, b.2.1, b.2.2.1, (upd f (q + 1) v), b.2.2.2.2) = wBd G a (b.1, b.2.1, b.2.2.1, (insA v n b.2.2.2.1), b.2.2.2.2) by rw [← hF]; show _ = wBd G a (_, _, _, if f q ≤ v then _ else _, _); unfold insA; rw [if_pos c_12])
        · refine lv_aload_n hx hb dX2_insertSorted_15 rfl (lv_at hl 0 rfl) ?_
          refine lv_iload_n hx hb dX2_insertSorted_16 rfl (lv_at hl 3 rfl) ?_
          refine lv_aload_n hx hb dX2_insertSorted_17 rfl (lv_at hl 0 rfl) ?_
          refine lv_iload_n hx hb dX2_insertSorted_18 rfl (lv_at hl 3 rfl) ?_
          refine lv_iconst (v := 1) hx hb dX2_insertSorted_19 (by decide) ?_
          refine lv_isub hx hb dX2_insertSorted_20 ?_
          refine r_top (y := nI q) (nI_pred q) ?_
          refine r_iald (v := f q) hx hb hK hw 3 rfl q rfl (by omega) (by decide) rfl dX2_insertSorted_21 ?_
          refine r_iast hx hb hK hw 3 rfl (q + 1) rfl (by omega) (by decide) dX2_insertSorted_22 (ws' := wBd G a (b.1, b.2.1, b.2.2.1, (upd f (q + 1) (f q)), b.2.2.2.2)) rfl (fun H locs hw => ?_)
          refine lv_iinc (v := nI q) (lv' := [(3, .int (nI q)), (0, .ref a.2.2.2.1), (1, .int (nI n)), (2, .int v)]) hx hb dX2_insertSorted_23 hl (k := 3) rfl (pk_m1 q) (by decide) rfl (fun ls hl => ?_)
          refine lv_goto (tgt := 2) hx hb dX2_insertSorted_26 (by decide) ?_
          exact ih_2 q (upd f (q + 1) (f q)) (by omega) (by omega) (by rw [← hF]; exact (if_neg c_12).symm) _ _ _ hw (lv_sub hl [1, 2, 3, 0] rfl)
  exact loop_2 (n + 1) n b.2.2.2.1 (Nat.lt_succ_self _) (by first | assumption | omega | rfl) (by first | assumption | omega | rfl) _ _ _ hw (lv_sub hl [1, 2, 3, 0] rfl)

theorem wiX2_gatherSides_gather_X1 : ∀ w ∈ wsX10, w ∈ wsX2_gatherSides := by decide +kernel
theorem wiX2_gatherSides_gather_X2 : ∀ w ∈ wsX20, w ∈ wsX2_gatherSides := by decide +kernel
theorem wmX2_gatherSides_gather_0 : Cond.fieldLink RX2 37 "PartSketch$Body" "pockets" "I" ∈ wsX2_gatherSides := by decide +kernel
theorem wmX2_gatherSides_gather_1 : Cond.fieldLink RX2 52 "PartSketch$Block" "failing" "Z" ∈ wsX2_gatherSides := by decide +kernel
theorem wmX2_gatherSides_gather_2 : Cond.fieldLink RX2 17 "PartSketch$Body" "xSides" "[I" ∈ wsX2_gatherSides := by decide +kernel
theorem wmX2_gatherSides_gather_3 : Cond.fieldLink RX2 72 "PartSketch$Block" "left" "I" ∈ wsX2_gatherSides := by decide +kernel
theorem wmX2_gatherSides_gather_4 : Cond.fieldLink RX2 21 "PartSketch$Body" "ySides" "[I" ∈ wsX2_gatherSides := by decide +kernel
theorem wmX2_gatherSides_gather_5 : Cond.fieldLink RX2 79 "PartSketch$Block" "low" "I" ∈ wsX2_gatherSides := by decide +kernel
theorem wmX2_gatherSides_gather_6 : Cond.fieldLink RX2 82 "PartSketch$Block" "right" "I" ∈ wsX2_gatherSides := by decide +kernel
theorem wmX2_gatherSides_gather_7 : Cond.fieldLink RX2 85 "PartSketch$Block" "high" "I" ∈ wsX2_gatherSides := by decide +kernel
set_option maxHeartbeats 4000000 in
set_option maxRecDepth 100000 in
/-- Body.gatherSides -/
theorem c_gather (l : Launch) (G : gT) (a : aBd) (b : tBd) (hn : b.2.1 ≤ 8) (sz : Nat) : MI l yX2_gatherSides wsX2_gatherSides ({ frames := 1, cells := 0, slots := 0, locals := 23 }) G [.ref a.1] (wBd G a b) (wBd G a (b.1, b.2.1, (bdGs b).2.1, (bdGs b).2.2, b.2.2.2.2)) sz (nI (bdGs b).1) 0 0 := by
  refine m_of (Qc := fun A9 => (va_Qi (fun (r9 : Int32) (_ : Unit) => r9 = (nI (bdGs b).1)) (fun _ t9 => wPost G A9 (wBd G a (b.1, b.2.1, (bdGs b).2.1, (bdGs b).2.2, b.2.2.2.2)) t9) A9)) (cc := cX2_gatherSides) (maxL := 4) (ret := (some .int)) (by decide) rfl (Nat.le_of_ble_eq_true rfl) ?_
  intro p9 e9 s9 m9 A9 be9 mt9 c9 H locs ls hx hb hr hts hown hlocks hin hml hK hA hw hl
  have hl : lv_has ls 4 [(0, .ref a.1)] := hl
  refine lv_iconst (v := 0) hx hb dX2_gatherSides_0 (by decide) ?_
  refine lv_istore_n (lv' := [(1, .int 0), (0, .ref a.1)]) hx hb dX2_gatherSides_1 rfl hl (by decide) rfl (fun ls hl => ?_)
  refine lv_iconst (v := 0) hx hb dX2_gatherSides_2 (by decide) ?_
  refine lv_istore_n (lv' := [(2, .int 0), (1, .int 0), (0, .ref a.1)]) hx hb dX2_gatherSides_3 rfl hl (by decide) rfl (fun ls hl => ?_)
  have loop_4 : ∀ (nf : Nat) (k : Nat) (hnf : (b.2.1 - k) < nf) (hk : k ≤ b.2.1), ∀ (H : Heap) (locs : List Loc) (ls : Array Slot), wW G A9 s9.heap (wBd G a (b.1, b.2.1, (gsK b.2.2.2.2 b.2.2.1 b.2.2.2.1 k).2.1, (gsK b.2.2.2.2 b.2.2.1 b.2.2.2.1 k).2.2, b.2.2.2.2)) H locs → lv_has ls 4 [(0, .ref a.1), (1, .int (nI (gsK b.2.2.2.2 b.2.2.1 b.2.2.2.1 k).1)), (2, .int (nI k))] → W p9 l e9 ({ frames := 1, cells := 0, slots := 0, locals := 23 }) s9 m9 [.ref a.1].toArray be9 mt9 c9 H locs 0 0 (MQ be9 (va_Qi (fun (r9 : Int32) (_ : Unit) => r9 = (nI (bdGs b).1)) (fun _ t9 => wPost G A9 (wBd G a (b.1, b.2.1, (bdGs b).2.1, (bdGs b).2.2, b.2.2.2.2)) t9) A9) [.ref a.1].toArray s9 0 0 A9) (F0 m9 4 ls []) := by
    intro nf
    induction nf with
    | zero => intro k hnf hk; exact absurd hnf (Nat.not_lt_zero _)
    | succ nf ih_4 =>
      intro k hnf hk H locs ls hw hl
      refine lv_iload_n hx hb dX2_gatherSides_4 rfl (lv_at hl 2 rfl) ?_
      refine lv_aload_n hx hb dX2_gatherSides_5 rfl (lv_at hl 0 rfl) ?_
      refine r_get (ci := 2) (v := .int (nI b.2.1)) (C := RX2) (T := TX2) (N := 5) hx hb hts wiX2_gatherSides_gather_X2 hown hK hw 0 rfl rfl 1 (by decide) wmX2_gatherSides_gather_0 (fun _ h9 => h9) rfl dX2_gatherSides_6 ?_
      refine lv_icmp_ge (tgt := 86) hx hb dX2_gatherSides_9 (by decide) (fun c_9 => ?_) (fun c_9 => ?_)
      · have hx_9 : b.2.1 ≤ k := ct_ge (k := k) (n := b.2.1) (by omega) (by omega) c_9
        refine lv_iload_n hx hb dX2_gatherSides_86 rfl (lv_at hl 1 rfl) ?_
        exact m_iret hx hb hr hlocks hK hw (Nat.le_of_ble_eq_true rfl) (Nat.le_of_ble_eq_true rfl) dX2_gatherSides_87 (show (nI (gsK b.2.2.2.2 b.2.2.1 b.2.2.2.1 k).1 : Int32) = nI (bdGs b).1 by rw [show k = b.2.1 by omega]; rfl) (show wBd G a (b.1, b.2.1, (gsK b.2.2.2.2 b.2.2.1 b.2.2.2.1 k).2.1, (gsK b.2.2.2.2 b.2.2.1 b.2.2.2.1 k).2.2, b.2.2.2.2) = wBd G a (b.1, b.2.1, (bdGs b).2.1, (bdGs b).2.2, b.2.2.2.2) by rw [show k = b.2.1 by omega]; rfl)
      · have hc_9 : k < b.2.1 := ct_nge (k := k) (n := b.2.1) (by omega) (by omega) c_9
        have hle := gsK_le b.2.2.2.2 b.2.2.1 b.2.2.2.1 k
        refine lv_aload_n hx hb dX2_gatherSides_12 rfl (lv_at hl 0 rfl) ?_
        refine lv_iload_n hx hb dX2_gatherSides_13 rfl (lv_at hl 2 rfl) ?_
        have hwc : wW G A9 s9.heap (([] : va_W) ++ ((wBd G a (b.1, b.2.1, (gsK b.2.2.2.2 b.2.2.1 b.2.2.2.1 k).2.1, (gsK b.2.2.2.2 b.2.2.1 b.2.2.2.1 k).2.2, b.2.2.2.2)) ++ ([] : va_W))) H locs := hw
        refine r_callr (res := (a.2.2.2.2 (1 + k))) (u := ([] : va_W)) (w := wBd G a (b.1, b.2.1, (gsK b.2.2.2.2 b.2.2.1 b.2.2.2.1 k).2.1, (gsK b.2.2.2.2 b.2.2.1 b.2.2.2.1 k).2.2, b.2.2.2.2)) (v := ([] : va_W)) (va_runV (As := [.int (nI k)]) (rest := []) ⟨hx, hb, hml, hown, hts⟩ (c_pocketAt l G a (b.1, b.2.1, (gsK b.2.2.2.2 b.2.2.1 b.2.2.2.1 k).2.1, (gsK b.2.2.2.2 b.2.2.1 b.2.2.2.1 k).2.2, b.2.2.2.2) (nI k) (1 + k) (nI_add 1 k) (by first | assumption | omega | decide) H.size) (cwV 1 hts gX2_gatherSides_X2_pocketAt rfl rfl rfl (by decide +kernel) ⟨Nat.le_of_ble_eq_true rfl, Nat.le_of_ble_eq_true rfl⟩) (r_preV (ci := 2) (q0 := 0) hK hwc rfl rfl rfl) rfl rfl hl.1 rfl (lv_room (Nat.le_of_ble_eq_true rfl)) dX2_gatherSides_14 ⟨Nat.le_of_ble_eq_true rfl, Nat.le_of_ble_eq_true rfl⟩) hwc hA rfl rfl (fun H locs hw => ?_)
        have hw : wW G A9 s9.heap (wBd G a (b.1, b.2.1, (gsK b.2.2.2.2 b.2.2.1 b.2.2.2.1 k).2.1, (gsK b.2.2.2.2 b.2.2.1 b.2.2.2.1 k).2.2, b.2.2.2.2)) H locs := hw
        refine lv_astore_n (lv' := [(3, .ref (a.2.2.2.2 (1 + k))), (0, .ref a.1), (1, .int (nI (gsK b.2.2.2.2 b.2.2.1 b.2.2.2.1 k).1)), (2, .int (nI k))]) hx hb dX2_gatherSides_17 rfl hl (by decide) rfl (fun ls hl => ?_)
        refine lv_aload_n hx hb dX2_gatherSides_18 rfl (lv_at hl 0 rfl) ?_
        refine r_get (ci := 1) (v := .int ((b.2.2.2.2 (1 + k)).2.2.2.2.2.2.2.2.2)) (C := RX1) (T := TX1) (N := 10) hx hb hts wiX2_gatherSides_gather_X1 hown hK hw (4 + (1 + k)) (bd_at (by omega)) rfl 9 (by decide) wmX2_gatherSides_gather_1 (fun _ h9 => h9) rfl dX2_gatherSides_19 ?_
        refine lv_if_ne (tgt := 80) hx hb dX2_gatherSides_22 (by decide) (fun c_22 => ?_) (fun c_22 => ?_)
        · refine lv_iinc (v := nI (k + 1)) (lv' := [(2, .int (nI (k + 1))), (3, .ref (a.2.2.2.2 (1 + k))), (0, .ref a.1), (1, .int (nI (gsK b.2.2.2.2 b.2.2.1 b.2.2.2.1 k).1))]) hx hb dX2_gatherSides_80 hl (k := 3) rfl (nI_add k 1) (by decide) rfl (fun ls hl => ?_)
          refine lv_goto (tgt := 4) hx hb dX2_gatherSides_83 (by decide) ?_
          exact ih_4 (k + 1) (by omega) (by first | assumption | omega | rfl) _ _ _ (wW.eq (show wBd G a (b.1, b.2.1, (gsK b.2.2.2.2 b.2.2.1 b.2.2.2.1 k).2.1, (gsK b.2.2.2.2 b.2.2.1 b.2.2.2.1 k).2.2, b.2.2.2.2) = wBd G a (b.1, b.2.1, (gsK b.2.2.2.2 b.2.2.1 b.2.2.2.1 (k + 1)).2.1, (gsK b.2.2.2.2 b.2.2.1 b.2.2.2.1 (k + 1)).2.2, b.2.2.2.2) from (by simp only [gsK, if_neg c_22])) hw) (lv_sub hl [2, 3, 0] (show lv_pick [(2, .int (nI (k + 1))), (3, .ref (a.2.2.2.2 (1 + k))), (0, .ref a.1), (1, .int (nI (gsK b.2.2.2.2 b.2.2.1 b.2.2.2.1 k).1))] [2, 3, 0] = [(0, .ref a.1), (1, .int (nI (gsK b.2.2.2.2 b.2.2.1 b.2.2.2.1 (k + 1)).1)), (2, .int (nI (k + 1)))] by simp only [gsK, if_neg c_22]; rfl))
        · refine lv_aload_n hx hb dX2_gatherSides_25 rfl (lv_at hl 1 rfl) ?_
          refine r_get (ci := 2) (v := .ref a.2.2.1) (C := RX2) (T := TX2) (N := 5) hx hb hts wiX2_gatherSides_gather_X2 hown hK hw 0 rfl rfl 3 (by decide) wmX2_gatherSides_gather_2 (fun _ h9 => h9) rfl dX2_gatherSides_26 ?_
          refine lv_iload_n hx hb dX2_gatherSides_29 rfl (lv_at hl 2 rfl) ?_
          refine lv_aload_n hx hb dX2_gatherSides_30 rfl (lv_at hl 0 rfl) ?_
          refine r_get (ci := 1) (v := .int ((b.2.2.2.2 (1 + k)).2.2.2.2.1)) (C := RX1) (T := TX1) (N := 10) hx hb hts wiX2_gatherSides_gather_X1 hown hK hw (4 + (1 + k)) (bd_at (by omega)) rfl 4 (by decide) wmX2_gatherSides_gather_3 (fun _ h9 => h9) rfl dX2_gatherSides_31 ?_
          have hwc : wW G A9 s9.heap (([] : va_W) ++ ((wBd G a (b.1, b.2.1, (gsK b.2.2.2.2 b.2.2.1 b.2.2.2.1 k).2.1, (gsK b.2.2.2.2 b.2.2.1 b.2.2.2.1 k).2.2, b.2.2.2.2)) ++ ([] : va_W))) H locs := hw
          refine r_callv (u := ([] : va_W)) (w := wBd G a (b.1, b.2.1, (gsK b.2.2.2.2 b.2.2.1 b.2.2.2.1 k).2.1, (gsK b.2.2.2.2 b.2.2.1 b.2.2.2.1 k).2.2, b.2.2.2.2)) (v := ([] : va_W)) (va_runS (As := [.ref a.2.2.1, .int (nI (gsK b.2.2.2.2 b.2.2.1 b.2.2.2.1 k).1), .int ((b.2.2.2.2 (1 + k)).2.2.2.2.1)]) (rest := []) ⟨hx, hb, hml, hown, hts⟩ (c_insx l G a (b.1, b.2.1, (gsK b.2.2.2.2 b.2.2.1 b.2.2.2.1 k).2.1, (gsK b.2.2.2.2 b.2.2.1 b.2.2.2.1 k).2.2, b.2.2.2.2) ((gsK b.2.2.2.2 b.2.2.1 b.2.2.2.1 k).1) ((b.2.2.2.2 (1 + k)).2.2.2.2.1) (by first | assumption | omega | decide) H.size) (va_cwS 3 hts gX2_gatherSides_X2_insertSorted rfl rfl rfl (by decide +kernel) ⟨Nat.le_of_ble_eq_true rfl, Nat.le_of_ble_eq_true rfl⟩) (r_preS hK hwc) rfl rfl hl.1 rfl (lv_room (Nat.le_of_ble_eq_true rfl)) dX2_gatherSides_34 ⟨Nat.le_of_ble_eq_true rfl, Nat.le_of_ble_eq_true rfl⟩) hwc hA rfl rfl (fun H locs hw => ?_)
          have hw : wW G A9 s9.heap (wBd G a (b.1, b.2.1, (insA ((b.2.2.2.2 (1 + k)).2.2.2.2.1) ((gsK b.2.2.2.2 b.2.2.1 b.2.2.2.1 k).1) ((gsK b.2.2.2.2 b.2.2.1 b.2.2.2.1 k).2.1)), (gsK b.2.2.2.2 b.2.2.1 b.2.2.2.1 k).2.2, b.2.2.2.2)) H locs := hw
          refine lv_aload_n hx hb dX2_gatherSides_37 rfl (lv_at hl 1 rfl) ?_
          refine r_get (ci := 2) (v := .ref a.2.2.2.1) (C := RX2) (T := TX2) (N := 5) hx hb hts wiX2_gatherSides_gather_X2 hown hK hw 0 rfl rfl 4 (by decide) wmX2_gatherSides_gather_4 (fun _ h9 => h9) rfl dX2_gatherSides_38 ?_
          refine lv_iload_n hx hb dX2_gatherSides_41 rfl (lv_at hl 2 rfl) ?_
          refine lv_aload_n hx hb dX2_gatherSides_42 rfl (lv_at hl 0 rfl) ?_
          refine r_get (ci := 1) (v := .int ((b.2.2.2.2 (1 + k)).2.2.2.2.2.2.1)) (C := RX1) (T := TX1) (N := 10) hx hb hts wiX2_gatherSides_gather_X1 hown hK hw (4 + (1 + k)) (bd_at (by omega)) rfl 6 (by decide) wmX2_gatherSides_gather_5 (fun _ h9 => h9) rfl dX2_gatherSides_43 ?_
          have hwc : wW G A9 s9.heap (([] : va_W) ++ ((wBd G a (b.1, b.2.1, (insA ((b.2.2.2.2 (1 + k)).2.2.2.2.1) ((gsK b.2.2.2.2 b.2.2.1 b.2.2.2.1 k).1) ((gsK b.2.2.2.2 b.2.2.1 b.2.2.2.1 k).2.1)), (gsK b.2.2.2.2 b.2.2.1 b.2.2.2.1 k).2.2, b.2.2.2.2)) ++ ([] : va_W))) H locs := hw
          refine r_callv (u := ([] : va_W)) (w := wBd G a (b.1, b.2.1, (insA ((b.2.2.2.2 (1 + k)).2.2.2.2.1) ((gsK b.2.2.2.2 b.2.2.1 b.2.2.2.1 k).1) ((gsK b.2.2.2.2 b.2.2.1 b.2.2.2.1 k).2.1)), (gsK b.2.2.2.2 b.2.2.1 b.2.2.2.1 k).2.2, b.2.2.2.2)) (v := ([] : va_W)) (va_runS (As := [.ref a.2.2.2.1, .int (nI (gsK b.2.2.2.2 b.2.2.1 b.2.2.2.1 k).1), .int ((b.2.2.2.2 (1 + k)).2.2.2.2.2.2.1)]) (rest := []) ⟨hx, hb, hml, hown, hts⟩ (c_insy l G a (b.1, b.2.1, (insA ((b.2.2.2.2 (1 + k)).2.2.2.2.1) ((gsK b.2.2.2.2 b.2.2.1 b.2.2.2.1 k).1) ((gsK b.2.2.2.2 b.2.2.1 b.2.2.2.1 k).2.1)), (gsK b.2.2.2.2 b.2.2.1 b.2.2.2.1 k).2.2, b.2.2.2.2) ((gsK b.2.2.2.2 b.2.2.1 b.2.2.2.1 k).1) ((b.2.2.2.2 (1 + k)).2.2.2.2.2.2.1) (by first | assumption | omega | decide) H.size) (va_cwS 3 hts gX2_gatherSides_X2_insertSorted rfl rfl rfl (by decide +kernel) ⟨Nat.le_of_ble_eq_true rfl, Nat.le_of_ble_eq_true rfl⟩) (r_preS hK hwc) rfl rfl hl.1 rfl (lv_room (Nat.le_of_ble_eq_true rfl)) dX2_gatherSides_46 ⟨Nat.le_of_ble_eq_true rfl, Nat.le_of_ble_eq_true rfl⟩) hwc hA rfl rfl (fun H locs hw => ?_)
          have hw : wW G A9 s9.heap (wBd G a (b.1, b.2.1, (insA ((b.2.2.2.2 (1 + k)).2.2.2.2.1) ((gsK b.2.2.2.2 b.2.2.1 b.2.2.2.1 k).1) ((gsK b.2.2.2.2 b.2.2.1 b.2.2.2.1 k).2.1)), (insA ((b.2.2.2.2 (1 + k)).2.2.2.2.2.2.1) ((gsK b.2.2.2.2 b.2.2.1 b.2.2.2.1 k).1) ((gsK b.2.2.2.2 b.2.2.1 b.2.2.2.1 k).2.2)), b.2.2.2.2)) H locs := hw
          refine lv_aload_n hx hb dX2_gatherSides_49 rfl (lv_at hl 1 rfl) ?_
          refine r_get (ci := 2) (v := .ref a.2.2.1) (C := RX2) (T := TX2) (N := 5) hx hb hts wiX2_gatherSides_gather_X2 hown hK hw 0 rfl rfl 3 (by decide) wmX2_gatherSides_gather_2 (fun _ h9 => h9) rfl dX2_gatherSides_50 ?_
          refine lv_iload_n hx hb dX2_gatherSides_53 rfl (lv_at hl 2 rfl) ?_
          refine lv_iconst (v := 1) hx hb dX2_gatherSides_54 (by decide) ?_
          refine lv_iadd hx hb dX2_gatherSides_55 ?_
          refine r_top (y := nI (((gsK b.2.2.2.2 b.2.2.1 b.2.2.2.1 k).1) + 1)) (nI_add ((gsK b.2.2.2.2 b.2.2.1 b.2.2.2.1 k).1) 1) ?_
          refine lv_aload_n hx hb dX2_gatherSides_56 rfl (lv_at hl 0 rfl) ?_
          refine r_get (ci := 1) (v := .int ((b.2.2.2.2 (1 + k)).2.2.2.2.2.1)) (C := RX1) (T := TX1) (N := 10) hx hb hts wiX2_gatherSides_gather_X1 hown hK hw (4 + (1 + k)) (bd_at (by omega)) rfl 5 (by decide) wmX2_gatherSides_gather_6 (fun _ h9 => h9) rfl dX2_gatherSides_57 ?_
          have hwc : wW G A9 s9.heap (([] : va_W) ++ ((wBd G a (b.1, b.2.1, (insA ((b.2.2.2.2 (1 + k)).2.2.2.2.1) ((gsK b.2.2.2.2 b.2.2.1 b.2.2.2.1 k).1) ((gsK b.2.2.2.2 b.2.2.1 b.2.2.2.1 k).2.1)), (insA ((b.2.2.2.2 (1 + k)).2.2.2.2.2.2.1) ((gsK b.2.2.2.2 b.2.2.1 b.2.2.2.1 k).1) ((gsK b.2.2.2.2 b.2.2.1 b.2.2.2.1 k).2.2)), b.2.2.2.2)) ++ ([] : va_W))) H locs := hw
          refine r_callv (u := ([] : va_W)) (w := wBd G a (b.1, b.2.1, (insA ((b.2.2.2.2 (1 + k)).2.2.2.2.1) ((gsK b.2.2.2.2 b.2.2.1 b.2.2.2.1 k).1) ((gsK b.2.2.2.2 b.2.2.1 b.2.2.2.1 k).2.1)), (insA ((b.2.2.2.2 (1 + k)).2.2.2.2.2.2.1) ((gsK b.2.2.2.2 b.2.2.1 b.2.2.2.1 k).1) ((gsK b.2.2.2.2 b.2.2.1 b.2.2.2.1 k).2.2)), b.2.2.2.2)) (v := ([] : va_W)) (va_runS (As := [.ref a.2.2.1, .int (nI (((gsK b.2.2.2.2 b.2.2.1 b.2.2.2.1 k).1) + 1)), .int ((b.2.2.2.2 (1 + k)).2.2.2.2.2.1)]) (rest := []) ⟨hx, hb, hml, hown, hts⟩ (c_insx l G a (b.1, b.2.1, (insA ((b.2.2.2.2 (1 + k)).2.2.2.2.1) ((gsK b.2.2.2.2 b.2.2.1 b.2.2.2.1 k).1) ((gsK b.2.2.2.2 b.2.2.1 b.2.2.2.1 k).2.1)), (insA ((b.2.2.2.2 (1 + k)).2.2.2.2.2.2.1) ((gsK b.2.2.2.2 b.2.2.1 b.2.2.2.1 k).1) ((gsK b.2.2.2.2 b.2.2.1 b.2.2.2.1 k).2.2)), b.2.2.2.2) (((gsK b.2.2.2.2 b.2.2.1 b.2.2.2.1 k).1) + 1) ((b.2.2.2.2 (1 + k)).2.2.2.2.2.1) (by first | assumption | omega | decide) H.size) (va_cwS 3 hts gX2_gatherSides_X2_insertSorted rfl rfl rfl (by decide +kernel) ⟨Nat.le_of_ble_eq_true rfl, Nat.le_of_ble_eq_true rfl⟩) (r_preS hK hwc) rfl rfl hl.1 rfl (lv_room (Nat.le_of_ble_eq_true rfl)) dX2_gatherSides_60 ⟨Nat.le_of_ble_eq_true rfl, Nat.le_of_ble_eq_true rfl⟩) hwc hA rfl rfl (fun H locs hw => ?_)
          have hw : wW G A9 s9.heap (wBd G a (b.1, b.2.1, (insA ((b.2.2.2.2 (1 + k)).2.2.2.2.2.1) (((gsK b.2.2.2.2 b.2.2.1 b.2.2.2.1 k).1) + 1) (insA ((b.2.2.2.2 (1 + k)).2.2.2.2.1) ((gsK b.2.2.2.2 b.2.2.1 b.2.2.2.1 k).1) ((gsK b.2.2.2.2 b.2.2.1 b.2.2.2.1 k).2.1))), (insA ((b.2.2.2.2 (1 + k)).2.2.2.2.2.2.1) ((gsK b.2.2.2.2 b.2.2.1 b.2.2.2.1 k).1) ((gsK b.2.2.2.2 b.2.2.1 b.2.2.2.1 k).2.2)), b.2.2.2.2)) H locs := hw
          refine lv_aload_n hx hb dX2_gatherSides_63 rfl (lv_at hl 1 rfl) ?_
          refine r_get (ci := 2) (v := .ref a.2.2.2.1) (C := RX2) (T := TX2) (N := 5) hx hb hts wiX2_gatherSides_gather_X2 hown hK hw 0 rfl rfl 4 (by decide) wmX2_gatherSides_gather_4 (fun _ h9 => h9) rfl dX2_gatherSides_64 ?_
          refine lv_iload_n hx hb dX2_gatherSides_67 rfl (lv_at hl 2 rfl) ?_
          refine lv_iconst (v := 1) hx hb dX2_gatherSides_68 (by decide) ?_
          refine lv_iadd hx hb dX2_gatherSides_69 ?_
          refine r_top (y := nI (((gsK b.2.2.2.2 b.2.2.1 b.2.2.2.1 k).1) + 1)) (nI_add ((gsK b.2.2.2.2 b.2.2.1 b.2.2.2.1 k).1) 1) ?_
          refine lv_aload_n hx hb dX2_gatherSides_70 rfl (lv_at hl 0 rfl) ?_
          refine r_get (ci := 1) (v := .int ((b.2.2.2.2 (1 + k)).2.2.2.2.2.2.2.1)) (C := RX1) (T := TX1) (N := 10) hx hb hts wiX2_gatherSides_gather_X1 hown hK hw (4 + (1 + k)) (bd_at (by omega)) rfl 7 (by decide) wmX2_gatherSides_gather_7 (fun _ h9 => h9) rfl dX2_gatherSides_71 ?_
          have hwc : wW G A9 s9.heap (([] : va_W) ++ ((wBd G a (b.1, b.2.1, (insA ((b.2.2.2.2 (1 + k)).2.2.2.2.2.1) (((gsK b.2.2.2.2 b.2.2.1 b.2.2.2.1 k).1) + 1) (insA ((b.2.2.2.2 (1 + k)).2.2.2.2.1) ((gsK b.2.2.2.2 b.2.2.1 b.2.2.2.1 k).1) ((gsK b.2.2.2.2 b.2.2.1 b.2.2.2.1 k).2.1))), (insA ((b.2.2.2.2 (1 + k)).2.2.2.2.2.2.1) ((gsK b.2.2.2.2 b.2.2.1 b.2.2.2.1 k).1) ((gsK b.2.2.2.2 b.2.2.1 b.2.2.2.1 k).2.2)), b.2.2.2.2)) ++ ([] : va_W))) H locs := hw
          refine r_callv (u := ([] : va_W)) (w := wBd G a (b.1, b.2.1, (insA ((b.2.2.2.2 (1 + k)).2.2.2.2.2.1) (((gsK b.2.2.2.2 b.2.2.1 b.2.2.2.1 k).1) + 1) (insA ((b.2.2.2.2 (1 + k)).2.2.2.2.1) ((gsK b.2.2.2.2 b.2.2.1 b.2.2.2.1 k).1) ((gsK b.2.2.2.2 b.2.2.1 b.2.2.2.1 k).2.1))), (insA ((b.2.2.2.2 (1 + k)).2.2.2.2.2.2.1) ((gsK b.2.2.2.2 b.2.2.1 b.2.2.2.1 k).1) ((gsK b.2.2.2.2 b.2.2.1 b.2.2.2.1 k).2.2)), b.2.2.2.2)) (v := ([] : va_W)) (va_runS (As := [.ref a.2.2.2.1, .int (nI (((gsK b.2.2.2.2 b.2.2.1 b.2.2.2.1 k).1) + 1)), .int ((b.2.2.2.2 (1 + k)).2.2.2.2.2.2.2.1)]) (rest := []) ⟨hx, hb, hml, hown, hts⟩ (c_insy l G a (b.1, b.2.1, (insA ((b.2.2.2.2 (1 + k)).2.2.2.2.2.1) (((gsK b.2.2.2.2 b.2.2.1 b.2.2.2.1 k).1) + 1) (insA ((b.2.2.2.2 (1 + k)).2.2.2.2.1) ((gsK b.2.2.2.2 b.2.2.1 b.2.2.2.1 k).1) ((gsK b.2.2.2.2 b.2.2.1 b.2.2.2.1 k).2.1))), (insA ((b.2.2.2.2 (1 + k)).2.2.2.2.2.2.1) ((gsK b.2.2.2.2 b.2.2.1 b.2.2.2.1 k).1) ((gsK b.2.2.2.2 b.2.2.1 b.2.2.2.1 k).2.2)), b.2.2.2.2) (((gsK b.2.2.2.2 b.2.2.1 b.2.2.2.1 k).1) + 1) ((b.2.2.2.2 (1 + k)).2.2.2.2.2.2.2.1) (by first | assumption | omega | decide) H.size) (va_cwS 3 hts gX2_gatherSides_X2_insertSorted rfl rfl rfl (by decide +kernel) ⟨Nat.le_of_ble_eq_true rfl, Nat.le_of_ble_eq_true rfl⟩) (r_preS hK hwc) rfl rfl hl.1 rfl (lv_room (Nat.le_of_ble_eq_true rfl)) dX2_gatherSides_74 ⟨Nat.le_of_ble_eq_true rfl, Nat.le_of_ble_eq_true rfl⟩) hwc hA rfl rfl (fun H locs hw => ?_)
          have hw : wW G A9 s9.heap (wBd G a (b.1, b.2.1, (insA ((b.2.2.2.2 (1 + k)).2.2.2.2.2.1) (((gsK b.2.2.2.2 b.2.2.1 b.2.2.2.1 k).1) + 1) (insA ((b.2.2.2.2 (1 + k)).2.2.2.2.1) ((gsK b.2.2.2.2 b.2.2.1 b.2.2.2.1 k).1) ((gsK b.2.2.2.2 b.2.2.1 b.2.2.2.1 k).2.1))), (insA ((b.2.2.2.2 (1 + k)).2.2.2.2.2.2.2.1) (((gsK b.2.2.2.2 b.2.2.1 b.2.2.2.1 k).1) + 1) (insA ((b.2.2.2.2 (1 + k)).2.2.2.2.2.2.1) ((gsK b.2.2.2.2 b.2.2.1 b.2.2.2.1 k).1) ((gsK b.2.2.2.2 b.2.2.1 b.2.2.2.1 k).2.2))), b.2.2.2.2)) H locs := hw
          refine lv_iinc (v := nI (((gsK b.2.2.2.2 b.2.2.1 b.2.2.2.1 k).1) + 2)) (lv' := [(1, .int (nI (((gsK b.2.2.2.2 b.2.2.1 b.2.2.2.1 k).1) + 2))), (3, .ref (a.2.2.2.2 (1 + k))), (0, .ref a.1), (2, .int (nI k))]) hx hb dX2_gatherSides_77 hl (k := 2) rfl (nI_add ((gsK b.2.2.2.2 b.2.2.1 b.2.2.2.1 k).1) 2) (by decide) rfl (fun ls hl => ?_)
          refine lv_iinc (v := nI (k + 1)) (lv' := [(2, .int (nI (k + 1))), (1, .int (nI (((gsK b.2.2.2.2 b.2.2.1 b.2.2.2.1 k).1) + 2))), (3, .ref (a.2.2.2.2 (1 + k))), (0, .ref a.1)]) hx hb dX2_gatherSides_80 hl (k := 3) rfl (nI_add k 1) (by decide) rfl (fun ls hl => ?_)
          refine lv_goto (tgt := 4) hx hb dX2_gatherSides_83 (by decide) ?_
          exact ih_4 (k + 1) (by omega) (by first | assumption | omega | rfl) _ _ _ (wW.eq (show wBd G a (b.1, b.2.1, (insA ((b.2.2.2.2 (1 + k)).2.2.2.2.2.1) (((gsK b.2.2.2.2 b.2.2.1 b.2.2.2.1 k).1) + 1) (insA ((b.2.2.2.2 (1 + k)).2.2.2.2.1) ((gsK b.2.2.2.2 b.2.2.1 b.2.2.2.1 k).1) ((gsK b.2.2.2.2 b.2.2.1 b.2.2.2.1 k).2.1))), (insA ((b.2.2.2.2 (1 + k)).2.2.2.2.2.2.2.1) (((gsK b.2.2.2.2 b.2.2.1 b.2.2.2.1 k).1) + 1) (insA ((b.2.2.2.2 (1 + k)).2.2.2.2.2.2.1) ((gsK b.2.2.2.2 b.2.2.1 b.2.2.2.1 k).1) ((gsK b.2.2.2.2 b.2.2.1 b.2.2.2.1 k).2.2))), b.2.2.2.2) = wBd G a (b.1, b.2.1, (gsK b.2.2.2.2 b.2.2.1 b.2.2.2.1 (k + 1)).2.1, (gsK b.2.2.2.2 b.2.2.1 b.2.2.2.1 (k + 1)).2.2, b.2.2.2.2) from (by simp only [gsK, if_pos c_22])) hw) (lv_sub hl [3, 1, 0] (show lv_pick [(2, .int (nI (k + 1))), (1, .int (nI (((gsK b.2.2.2.2 b.2.2.1 b.2.2.2.1 k).1) + 2))), (3, .ref (a.2.2.2.2 (1 + k))), (0, .ref a.1)] [3, 1, 0] = [(0, .ref a.1), (1, .int (nI (gsK b.2.2.2.2 b.2.2.1 b.2.2.2.1 (k + 1)).1)), (2, .int (nI (k + 1)))] by simp only [gsK, if_pos c_22]; rfl))
  exact loop_4 ((b.2.1 - 0) + 1) 0 (Nat.lt_succ_self _) (by first | assumption | omega | rfl) _ _ _ (wW.eq (show wBd G a b = wBd G a (b.1, b.2.1, (gsK b.2.2.2.2 b.2.2.1 b.2.2.2.1 0).2.1, (gsK b.2.2.2.2 b.2.2.1 b.2.2.2.1 0).2.2, b.2.2.2.2) from rfl) hw) (lv_sub hl [2, 1, 0] rfl)

theorem wiX2_layersTaken_layersTaken_X1 : ∀ w ∈ wsX10, w ∈ wsX2_layersTaken := by decide +kernel
theorem wiX2_layersTaken_layersTaken_X2 : ∀ w ∈ wsX20, w ∈ wsX2_layersTaken := by decide +kernel
theorem wmX2_layersTaken_layersTaken_0 : Cond.fieldLink RX2 37 "PartSketch$Body" "pockets" "I" ∈ wsX2_layersTaken := by decide +kernel
theorem wmX2_layersTaken_layersTaken_1 : Cond.fieldLink RX2 52 "PartSketch$Block" "failing" "Z" ∈ wsX2_layersTaken := by decide +kernel
set_option maxHeartbeats 4000000 in
set_option maxRecDepth 100000 in
/-- Body.layersTaken -/
theorem c_layersTaken (l : Launch) (G : gT) (a : aBd) (b : tBd) (u : Int32) (v : Int32) (hn : b.2.1 ≤ 8) (sz : Nat) : MI l yX2_layersTaken wsX2_layersTaken ({ frames := 1, cells := 0, slots := 0, locals := 22 }) G [.ref a.1, .int u, .int v] (wBd G a b) (wBd G a b) sz (bitc (ltK b.2.2.2.2 u v b.2.1)) 0 0 := by
  refine m_of (Qc := fun A9 => (va_Qi (fun (r9 : Int32) (_ : Unit) => r9 = (bitc (ltK b.2.2.2.2 u v b.2.1))) (fun _ t9 => wPost G A9 (wBd G a b) t9) A9)) (cc := cX2_layersTaken) (maxL := 7) (ret := (some .int)) (by decide) rfl (Nat.le_of_ble_eq_true rfl) ?_
  intro p9 e9 s9 m9 A9 be9 mt9 c9 H locs ls hx hb hr hts hown hlocks hin hml hK hA hw hl
  have hl : lv_has ls 7 [(0, .ref a.1), (1, .int u), (2, .int v)] := hl
  refine lv_lconst (v := 0) hx hb dX2_layersTaken_0 (by decide) ?_
  refine lv_lstore_n (lv' := [(3, .long 0), (0, .ref a.1), (1, .int u), (2, .int v)]) hx hb dX2_layersTaken_1 rfl hl (by decide) rfl (fun ls hl => ?_)
  refine lv_iconst (v := 0) hx hb dX2_layersTaken_2 (by decide) ?_
  refine lv_istore (lv' := [(5, .int 0), (3, .long 0), (0, .ref a.1), (1, .int u), (2, .int v)]) hx hb dX2_layersTaken_3 hl (by decide) rfl (fun ls hl => ?_)
  have loop_5 : ∀ (nf : Nat) (k : Nat) (hnf : (b.2.1 - k) < nf) (hk : k ≤ b.2.1), ∀ (H : Heap) (locs : List Loc) (ls : Array Slot), wW G A9 s9.heap (wBd G a b) H locs → lv_has ls 7 [(0, .ref a.1), (1, .int u), (2, .int v), (3, .long (ltK b.2.2.2.2 u v k)), (5, .int (nI k))] → W p9 l e9 ({ frames := 1, cells := 0, slots := 0, locals := 22 }) s9 m9 [.ref a.1, .int u, .int v].toArray be9 mt9 c9 H locs 0 0 (MQ be9 (va_Qi (fun (r9 : Int32) (_ : Unit) => r9 = (bitc (ltK b.2.2.2.2 u v b.2.1))) (fun _ t9 => wPost G A9 (wBd G a b) t9) A9) [.ref a.1, .int u, .int v].toArray s9 0 0 A9) (F0 m9 5 ls []) := by
    intro nf
    induction nf with
    | zero => intro k hnf hk; exact absurd hnf (Nat.not_lt_zero _)
    | succ nf ih_5 =>
      intro k hnf hk H locs ls hw hl
      refine lv_iload hx hb dX2_layersTaken_5 (lv_at hl 4 rfl) ?_
      refine lv_aload_n hx hb dX2_layersTaken_7 rfl (lv_at hl 0 rfl) ?_
      refine r_get (ci := 2) (v := .int (nI b.2.1)) (C := RX2) (T := TX2) (N := 5) hx hb hts wiX2_layersTaken_layersTaken_X2 hown hK hw 0 rfl rfl 1 (by decide) wmX2_layersTaken_layersTaken_0 (fun _ h9 => h9) rfl dX2_layersTaken_8 ?_
      refine lv_icmp_ge (tgt := 54) hx hb dX2_layersTaken_11 (by decide) (fun c_11 => ?_) (fun c_11 => ?_)
      · have hx_11 : b.2.1 ≤ k := ct_ge (k := k) (n := b.2.1) (by omega) (by omega) c_11
        refine lv_lload_n hx hb dX2_layersTaken_54 rfl (lv_at hl 3 rfl) ?_
        have hwc : wW G A9 s9.heap (([] : va_W) ++ (([] : va_W) ++ (wBd G a b))) H locs := hw
        refine r_calli (res := (bitc (ltK b.2.2.2.2 u v k))) (u := ([] : va_W)) (w := ([] : va_W)) (v := wBd G a b) (va_runS (As := [.long (ltK b.2.2.2.2 u v k)]) (rest := []) ⟨hx, hb, hml, hown, hts⟩ (c_bitCount l G (ltK b.2.2.2.2 u v k) H.size) (va_cwS 1 hts gX2_layersTaken_J13_bitCount_95d88 rfl rfl rfl (by decide +kernel) ⟨Nat.le_of_ble_eq_true rfl, Nat.le_of_ble_eq_true rfl⟩) (r_preS hK hwc) rfl rfl hl.1 rfl (lv_room (Nat.le_of_ble_eq_true rfl)) dX2_layersTaken_55 ⟨Nat.le_of_ble_eq_true rfl, Nat.le_of_ble_eq_true rfl⟩) hwc hA rfl rfl (fun H locs hw => ?_)
        have hw : wW G A9 s9.heap (wBd G a b) H locs := hw
        exact m_iret hx hb hr hlocks hK hw (Nat.le_of_ble_eq_true rfl) (Nat.le_of_ble_eq_true rfl) dX2_layersTaken_58 (show (bitc (ltK b.2.2.2.2 u v k) : Int32) = bitc (ltK b.2.2.2.2 u v b.2.1) by rw [show k = b.2.1 by omega]) rfl
      · have hc_11 : k < b.2.1 := ct_nge (k := k) (n := b.2.1) (by omega) (by omega) c_11
        refine lv_aload_n hx hb dX2_layersTaken_14 rfl (lv_at hl 0 rfl) ?_
        refine lv_iload hx hb dX2_layersTaken_15 (lv_at hl 4 rfl) ?_
        have hwc : wW G A9 s9.heap (([] : va_W) ++ ((wBd G a b) ++ ([] : va_W))) H locs := hw
        refine r_callr (res := (a.2.2.2.2 (1 + k))) (u := ([] : va_W)) (w := wBd G a b) (v := ([] : va_W)) (va_runV (As := [.int (nI k)]) (rest := []) ⟨hx, hb, hml, hown, hts⟩ (c_pocketAt l G a b (nI k) (1 + k) (nI_add 1 k) (by first | assumption | omega | decide) H.size) (cwV 1 hts gX2_layersTaken_X2_pocketAt rfl rfl rfl (by decide +kernel) ⟨Nat.le_of_ble_eq_true rfl, Nat.le_of_ble_eq_true rfl⟩) (r_preV (ci := 2) (q0 := 0) hK hwc rfl rfl rfl) rfl rfl hl.1 rfl (lv_room (Nat.le_of_ble_eq_true rfl)) dX2_layersTaken_17 ⟨Nat.le_of_ble_eq_true rfl, Nat.le_of_ble_eq_true rfl⟩) hwc hA rfl rfl (fun H locs hw => ?_)
        have hw : wW G A9 s9.heap (wBd G a b) H locs := hw
        refine lv_astore (lv' := [(6, .ref (a.2.2.2.2 (1 + k))), (0, .ref a.1), (1, .int u), (2, .int v), (3, .long (ltK b.2.2.2.2 u v k)), (5, .int (nI k))]) hx hb dX2_layersTaken_20 hl (by decide) rfl (fun ls hl => ?_)
        refine lv_aload hx hb dX2_layersTaken_22 (lv_at hl 0 rfl) ?_
        refine r_get (ci := 1) (v := .int ((b.2.2.2.2 (1 + k)).2.2.2.2.2.2.2.2.2)) (C := RX1) (T := TX1) (N := 10) hx hb hts wiX2_layersTaken_layersTaken_X1 hown hK hw (4 + (1 + k)) (bd_at (by omega)) rfl 9 (by decide) wmX2_layersTaken_layersTaken_1 (fun _ h9 => h9) rfl dX2_layersTaken_24 ?_
        refine lv_if_ne (tgt := 48) hx hb dX2_layersTaken_27 (by decide) (fun c_27 => ?_) (fun c_27 => ?_)
        · refine lv_iinc (v := nI (k + 1)) (lv' := [(5, .int (nI (k + 1))), (6, .ref (a.2.2.2.2 (1 + k))), (0, .ref a.1), (1, .int u), (2, .int v), (3, .long (ltK b.2.2.2.2 u v k))]) hx hb dX2_layersTaken_48 hl (k := 5) rfl (nI_add k 1) (by decide) rfl (fun ls hl => ?_)
          refine lv_goto (tgt := 5) hx hb dX2_layersTaken_51 (by decide) ?_
          exact ih_5 (k + 1) (by omega) (by first | assumption | omega | rfl) _ _ _ hw (lv_sub hl [2, 3, 4, 5, 0] (show lv_pick [(5, .int (nI (k + 1))), (6, .ref (a.2.2.2.2 (1 + k))), (0, .ref a.1), (1, .int u), (2, .int v), (3, .long (ltK b.2.2.2.2 u v k))] [2, 3, 4, 5, 0] = [(0, .ref a.1), (1, .int u), (2, .int v), (3, .long (ltK b.2.2.2.2 u v (k + 1))), (5, .int (nI (k + 1)))] by simp only [ltK, if_neg c_27]; rfl))
        · refine lv_aload hx hb dX2_layersTaken_30 (lv_at hl 0 rfl) ?_
          refine lv_iload_n hx hb dX2_layersTaken_32 rfl (lv_at hl 2 rfl) ?_
          refine lv_iload_n hx hb dX2_layersTaken_33 rfl (lv_at hl 3 rfl) ?_
          have hwc : wW G A9 s9.heap (([] : va_W) ++ ((wBd G a b) ++ ([] : va_W))) H locs := hw
          have hrv : (wBd G a b)[(4 + (1 + k))]? = some (a.2.2.2.2 (1 + k), cBk a.2.2.2.2 (b.2.2.2.2 (1 + k))) := bd_at (by omega)
          refine r_calli (res := (bkCovers (b.2.2.2.2 (1 + k)) u v)) (u := ([] : va_W)) (w := wBd G a b) (v := ([] : va_W)) (va_runV (As := [.int u, .int v]) (rest := []) ⟨hx, hb, hml, hown, hts⟩ (c_covers l G a b (1 + k) u v (by first | assumption | omega | decide) H.size) (cwV 2 hts gX2_layersTaken_X1_covers rfl rfl rfl (by decide +kernel) ⟨Nat.le_of_ble_eq_true rfl, Nat.le_of_ble_eq_true rfl⟩) (r_preV (ci := 1) (q0 := (4 + (1 + k))) hK hwc hrv rfl rfl) rfl rfl hl.1 rfl (lv_room (Nat.le_of_ble_eq_true rfl)) dX2_layersTaken_34 ⟨Nat.le_of_ble_eq_true rfl, Nat.le_of_ble_eq_true rfl⟩) hwc hA rfl rfl (fun H locs hw => ?_)
          have hw : wW G A9 s9.heap (wBd G a b) H locs := hw
          refine lv_if_eq (tgt := 48) hx hb dX2_layersTaken_37 (by decide) (fun c_37 => ?_) (fun c_37 => ?_)
          · refine lv_iinc (v := nI (k + 1)) (lv' := [(5, .int (nI (k + 1))), (6, .ref (a.2.2.2.2 (1 + k))), (0, .ref a.1), (1, .int u), (2, .int v), (3, .long (ltK b.2.2.2.2 u v k))]) hx hb dX2_layersTaken_48 hl (k := 5) rfl (nI_add k 1) (by decide) rfl (fun ls hl => ?_)
            refine lv_goto (tgt := 5) hx hb dX2_layersTaken_51 (by decide) ?_
            exact ih_5 (k + 1) (by omega) (by first | assumption | omega | rfl) _ _ _ hw (lv_sub hl [2, 3, 4, 5, 0] (show lv_pick [(5, .int (nI (k + 1))), (6, .ref (a.2.2.2.2 (1 + k))), (0, .ref a.1), (1, .int u), (2, .int v), (3, .long (ltK b.2.2.2.2 u v k))] [2, 3, 4, 5, 0] = [(0, .ref a.1), (1, .int u), (2, .int v), (3, .long (ltK b.2.2.2.2 u v (k + 1))), (5, .int (nI (k + 1)))] by simp only [ltK, if_pos c_27, if_pos c_37]; rfl))
          · refine lv_lload_n hx hb dX2_layersTaken_40 rfl (lv_at hl 4 rfl) ?_
            refine lv_aload hx hb dX2_layersTaken_41 (lv_at hl 0 rfl) ?_
            have hwc : wW G A9 s9.heap (([] : va_W) ++ ((wBd G a b) ++ ([] : va_W))) H locs := hw
            have hrv : (wBd G a b)[(4 + (1 + k))]? = some (a.2.2.2.2 (1 + k), cBk a.2.2.2.2 (b.2.2.2.2 (1 + k))) := bd_at (by omega)
            refine r_calll (res := (bkLayers (b.2.2.2.2 (1 + k)))) (u := ([] : va_W)) (w := wBd G a b) (v := ([] : va_W)) (va_runV (As := []) (rest := [.long (ltK b.2.2.2.2 u v k)]) ⟨hx, hb, hml, hown, hts⟩ (c_layers l G a b (1 + k) (by first | assumption | omega | decide) H.size) (cwV 0 hts gX2_layersTaken_X1_layers rfl rfl rfl (by decide +kernel) ⟨Nat.le_of_ble_eq_true rfl, Nat.le_of_ble_eq_true rfl⟩) (r_preV (ci := 1) (q0 := (4 + (1 + k))) hK hwc hrv rfl rfl) rfl rfl hl.1 rfl (lv_room (Nat.le_of_ble_eq_true rfl)) dX2_layersTaken_43 ⟨Nat.le_of_ble_eq_true rfl, Nat.le_of_ble_eq_true rfl⟩) hwc hA rfl rfl (fun H locs hw => ?_)
            have hw : wW G A9 s9.heap (wBd G a b) H locs := hw
            refine lv_lor hx hb dX2_layersTaken_46 ?_
            refine lv_lstore_n (lv' := [(3, .long ((ltK b.2.2.2.2 u v k) ||| (bkLayers (b.2.2.2.2 (1 + k))))), (6, .ref (a.2.2.2.2 (1 + k))), (0, .ref a.1), (1, .int u), (2, .int v), (5, .int (nI k))]) hx hb dX2_layersTaken_47 rfl hl (by decide) rfl (fun ls hl => ?_)
            refine lv_iinc (v := nI (k + 1)) (lv' := [(5, .int (nI (k + 1))), (3, .long ((ltK b.2.2.2.2 u v k) ||| (bkLayers (b.2.2.2.2 (1 + k))))), (6, .ref (a.2.2.2.2 (1 + k))), (0, .ref a.1), (1, .int u), (2, .int v)]) hx hb dX2_layersTaken_48 hl (k := 5) rfl (nI_add k 1) (by decide) rfl (fun ls hl => ?_)
            refine lv_goto (tgt := 5) hx hb dX2_layersTaken_51 (by decide) ?_
            exact ih_5 (k + 1) (by omega) (by first | assumption | omega | rfl) _ _ _ hw (lv_sub hl [3, 4, 5, 1, 0] (show lv_pick [(5, .int (nI (k + 1))), (3, .long ((ltK b.2.2.2.2 u v k) ||| (bkLayers (b.2.2.2.2 (1 + k))))), (6, .ref (a.2.2.2.2 (1 + k))), (0, .ref a.1), (1, .int u), (2, .int v)] [3, 4, 5, 1, 0] = [(0, .ref a.1), (1, .int u), (2, .int v), (3, .long (ltK b.2.2.2.2 u v (k + 1))), (5, .int (nI (k + 1)))] by simp only [ltK, if_pos c_27, if_neg c_37]; rfl))
  exact loop_5 ((b.2.1 - 0) + 1) 0 (Nat.lt_succ_self _) (by first | assumption | omega | rfl) _ _ _ hw (lv_sub hl [2, 3, 4, 1, 0] rfl)

theorem wiX2_differentDepths_depths_X1 : ∀ w ∈ wsX10, w ∈ wsX2_differentDepths := by decide +kernel
theorem wiX2_differentDepths_depths_X2 : ∀ w ∈ wsX20, w ∈ wsX2_differentDepths := by decide +kernel
theorem wmX2_differentDepths_depths_0 : Cond.fieldLink RX2 37 "PartSketch$Body" "pockets" "I" ∈ wsX2_differentDepths := by decide +kernel
theorem wmX2_differentDepths_depths_1 : Cond.fieldLink RX2 52 "PartSketch$Block" "failing" "Z" ∈ wsX2_differentDepths := by decide +kernel
theorem wmX2_differentDepths_depths_2 : Cond.fieldLink RX2 45 "PartSketch$Block" "depth" "I" ∈ wsX2_differentDepths := by decide +kernel
set_option maxHeartbeats 4000000 in
set_option maxRecDepth 100000 in
/-- Body.differentDepths -/
theorem c_depths (l : Launch) (G : gT) (a : aBd) (b : tBd) (hn : b.2.1 ≤ 8) (sz : Nat) : MI l yX2_differentDepths wsX2_differentDepths ({ frames := 1, cells := 0, slots := 0, locals := 21 }) G [.ref a.1] (wBd G a b) (wBd G a b) sz (bitc (ddK b.2.2.2.2 b.2.1)) 0 0 := by
  refine m_of (Qc := fun A9 => (va_Qi (fun (r9 : Int32) (_ : Unit) => r9 = (bitc (ddK b.2.2.2.2 b.2.1))) (fun _ t9 => wPost G A9 (wBd G a b) t9) A9)) (cc := cX2_differentDepths) (maxL := 5) (ret := (some .int)) (by decide) rfl (Nat.le_of_ble_eq_true rfl) ?_
  intro p9 e9 s9 m9 A9 be9 mt9 c9 H locs ls hx hb hr hts hown hlocks hin hml hK hA hw hl
  have hl : lv_has ls 5 [(0, .ref a.1)] := hl
  refine lv_lconst (v := 0) hx hb dX2_differentDepths_0 (by decide) ?_
  refine lv_lstore_n (lv' := [(1, .long 0), (0, .ref a.1)]) hx hb dX2_differentDepths_1 rfl hl (by decide) rfl (fun ls hl => ?_)
  refine lv_iconst (v := 0) hx hb dX2_differentDepths_2 (by decide) ?_
  refine lv_istore_n (lv' := [(3, .int 0), (1, .long 0), (0, .ref a.1)]) hx hb dX2_differentDepths_3 rfl hl (by decide) rfl (fun ls hl => ?_)
  have loop_4 : ∀ (nf : Nat) (k : Nat) (hnf : (b.2.1 - k) < nf) (hk : k ≤ b.2.1), ∀ (H : Heap) (locs : List Loc) (ls : Array Slot), wW G A9 s9.heap (wBd G a b) H locs → lv_has ls 5 [(0, .ref a.1), (1, .long (ddK b.2.2.2.2 k)), (3, .int (nI k))] → W p9 l e9 ({ frames := 1, cells := 0, slots := 0, locals := 21 }) s9 m9 [.ref a.1].toArray be9 mt9 c9 H locs 0 0 (MQ be9 (va_Qi (fun (r9 : Int32) (_ : Unit) => r9 = (bitc (ddK b.2.2.2.2 b.2.1))) (fun _ t9 => wPost G A9 (wBd G a b) t9) A9) [.ref a.1].toArray s9 0 0 A9) (F0 m9 4 ls []) := by
    intro nf
    induction nf with
    | zero => intro k hnf hk; exact absurd hnf (Nat.not_lt_zero _)
    | succ nf ih_4 =>
      intro k hnf hk H locs ls hw hl
      refine lv_iload_n hx hb dX2_differentDepths_4 rfl (lv_at hl 2 rfl) ?_
      refine lv_aload_n hx hb dX2_differentDepths_5 rfl (lv_at hl 0 rfl) ?_
      refine r_get (ci := 2) (v := .int (nI b.2.1)) (C := RX2) (T := TX2) (N := 5) hx hb hts wiX2_differentDepths_depths_X2 hown hK hw 0 rfl rfl 1 (by decide) wmX2_differentDepths_depths_0 (fun _ h9 => h9) rfl dX2_differentDepths_6 ?_
      refine lv_icmp_ge (tgt := 43) hx hb dX2_differentDepths_9 (by decide) (fun c_9 => ?_) (fun c_9 => ?_)
      · have hx_9 : b.2.1 ≤ k := ct_ge (k := k) (n := b.2.1) (by omega) (by omega) c_9
        refine lv_lload_n hx hb dX2_differentDepths_43 rfl (lv_at hl 1 rfl) ?_
        have hwc : wW G A9 s9.heap (([] : va_W) ++ (([] : va_W) ++ (wBd G a b))) H locs := hw
        refine r_calli (res := (bitc (ddK b.2.2.2.2 k))) (u := ([] : va_W)) (w := ([] : va_W)) (v := wBd G a b) (va_runS (As := [.long (ddK b.2.2.2.2 k)]) (rest := []) ⟨hx, hb, hml, hown, hts⟩ (c_bitCount l G (ddK b.2.2.2.2 k) H.size) (va_cwS 1 hts gX2_differentDepths_J13_bitCount_95d88 rfl rfl rfl (by decide +kernel) ⟨Nat.le_of_ble_eq_true rfl, Nat.le_of_ble_eq_true rfl⟩) (r_preS hK hwc) rfl rfl hl.1 rfl (lv_room (Nat.le_of_ble_eq_true rfl)) dX2_differentDepths_44 ⟨Nat.le_of_ble_eq_true rfl, Nat.le_of_ble_eq_true rfl⟩) hwc hA rfl rfl (fun H locs hw => ?_)
        have hw : wW G A9 s9.heap (wBd G a b) H locs := hw
        exact m_iret hx hb hr hlocks hK hw (Nat.le_of_ble_eq_true rfl) (Nat.le_of_ble_eq_true rfl) dX2_differentDepths_47 (show (bitc (ddK b.2.2.2.2 k) : Int32) = bitc (ddK b.2.2.2.2 b.2.1) by rw [show k = b.2.1 by omega]) rfl
      · have hc_9 : k < b.2.1 := ct_nge (k := k) (n := b.2.1) (by omega) (by omega) c_9
        refine lv_aload_n hx hb dX2_differentDepths_12 rfl (lv_at hl 0 rfl) ?_
        refine lv_iload_n hx hb dX2_differentDepths_13 rfl (lv_at hl 2 rfl) ?_
        have hwc : wW G A9 s9.heap (([] : va_W) ++ ((wBd G a b) ++ ([] : va_W))) H locs := hw
        refine r_callr (res := (a.2.2.2.2 (1 + k))) (u := ([] : va_W)) (w := wBd G a b) (v := ([] : va_W)) (va_runV (As := [.int (nI k)]) (rest := []) ⟨hx, hb, hml, hown, hts⟩ (c_pocketAt l G a b (nI k) (1 + k) (nI_add 1 k) (by first | assumption | omega | decide) H.size) (cwV 1 hts gX2_differentDepths_X2_pocketAt rfl rfl rfl (by decide +kernel) ⟨Nat.le_of_ble_eq_true rfl, Nat.le_of_ble_eq_true rfl⟩) (r_preV (ci := 2) (q0 := 0) hK hwc rfl rfl rfl) rfl rfl hl.1 rfl (lv_room (Nat.le_of_ble_eq_true rfl)) dX2_differentDepths_14 ⟨Nat.le_of_ble_eq_true rfl, Nat.le_of_ble_eq_true rfl⟩) hwc hA rfl rfl (fun H locs hw => ?_)
        have hw : wW G A9 s9.heap (wBd G a b) H locs := hw
        refine lv_astore (lv' := [(4, .ref (a.2.2.2.2 (1 + k))), (0, .ref a.1), (1, .long (ddK b.2.2.2.2 k)), (3, .int (nI k))]) hx hb dX2_differentDepths_17 hl (by decide) rfl (fun ls hl => ?_)
        refine lv_aload hx hb dX2_differentDepths_19 (lv_at hl 0 rfl) ?_
        refine r_get (ci := 1) (v := .int ((b.2.2.2.2 (1 + k)).2.2.2.2.2.2.2.2.2)) (C := RX1) (T := TX1) (N := 10) hx hb hts wiX2_differentDepths_depths_X1 hown hK hw (4 + (1 + k)) (bd_at (by omega)) rfl 9 (by decide) wmX2_differentDepths_depths_1 (fun _ h9 => h9) rfl dX2_differentDepths_21 ?_
        refine lv_if_ne (tgt := 37) hx hb dX2_differentDepths_24 (by decide) (fun c_24 => ?_) (fun c_24 => ?_)
        · refine lv_iinc (v := nI (k + 1)) (lv' := [(3, .int (nI (k + 1))), (4, .ref (a.2.2.2.2 (1 + k))), (0, .ref a.1), (1, .long (ddK b.2.2.2.2 k))]) hx hb dX2_differentDepths_37 hl (k := 3) rfl (nI_add k 1) (by decide) rfl (fun ls hl => ?_)
          refine lv_goto (tgt := 4) hx hb dX2_differentDepths_40 (by decide) ?_
          exact ih_4 (k + 1) (by omega) (by first | assumption | omega | rfl) _ _ _ hw (lv_sub hl [2, 3, 0] (show lv_pick [(3, .int (nI (k + 1))), (4, .ref (a.2.2.2.2 (1 + k))), (0, .ref a.1), (1, .long (ddK b.2.2.2.2 k))] [2, 3, 0] = [(0, .ref a.1), (1, .long (ddK b.2.2.2.2 (k + 1))), (3, .int (nI (k + 1)))] by simp only [ddK, if_neg c_24]; rfl))
        · refine lv_lload_n hx hb dX2_differentDepths_27 rfl (lv_at hl 2 rfl) ?_
          refine lv_lconst (v := 1) hx hb dX2_differentDepths_28 (by decide) ?_
          refine lv_aload hx hb dX2_differentDepths_29 (lv_at hl 0 rfl) ?_
          refine r_get (ci := 1) (v := .int ((b.2.2.2.2 (1 + k)).2.2.1)) (C := RX1) (T := TX1) (N := 10) hx hb hts wiX2_differentDepths_depths_X1 hown hK hw (4 + (1 + k)) (bd_at (by omega)) rfl 2 (by decide) wmX2_differentDepths_depths_2 (fun _ h9 => h9) rfl dX2_differentDepths_31 ?_
          refine lv_lshl (v := 1 <<< (((b.2.2.2.2 (1 + k)).2.2.1).toInt64 &&& 63)) hx hb dX2_differentDepths_34 rfl ?_
          refine lv_lor hx hb dX2_differentDepths_35 ?_
          refine lv_lstore_n (lv' := [(1, .long ((ddK b.2.2.2.2 k) ||| (1 <<< (((b.2.2.2.2 (1 + k)).2.2.1).toInt64 &&& 63)))), (4, .ref (a.2.2.2.2 (1 + k))), (0, .ref a.1), (3, .int (nI k))]) hx hb dX2_differentDepths_36 rfl hl (by decide) rfl (fun ls hl => ?_)
          refine lv_iinc (v := nI (k + 1)) (lv' := [(3, .int (nI (k + 1))), (1, .long ((ddK b.2.2.2.2 k) ||| (1 <<< (((b.2.2.2.2 (1 + k)).2.2.1).toInt64 &&& 63)))), (4, .ref (a.2.2.2.2 (1 + k))), (0, .ref a.1)]) hx hb dX2_differentDepths_37 hl (k := 3) rfl (nI_add k 1) (by decide) rfl (fun ls hl => ?_)
          refine lv_goto (tgt := 4) hx hb dX2_differentDepths_40 (by decide) ?_
          exact ih_4 (k + 1) (by omega) (by first | assumption | omega | rfl) _ _ _ hw (lv_sub hl [3, 1, 0] (show lv_pick [(3, .int (nI (k + 1))), (1, .long ((ddK b.2.2.2.2 k) ||| (1 <<< (((b.2.2.2.2 (1 + k)).2.2.1).toInt64 &&& 63)))), (4, .ref (a.2.2.2.2 (1 + k))), (0, .ref a.1)] [3, 1, 0] = [(0, .ref a.1), (1, .long (ddK b.2.2.2.2 (k + 1))), (3, .int (nI (k + 1)))] by simp only [ddK, if_pos c_24]; rfl))
  exact loop_4 ((b.2.1 - 0) + 1) 0 (Nat.lt_succ_self _) (by first | assumption | omega | rfl) _ _ _ hw (lv_sub hl [2, 1, 0] rfl)

theorem wiX2_takenCells_taken_X2 : ∀ w ∈ wsX20, w ∈ wsX2_takenCells := by decide +kernel
theorem wmX2_takenCells_taken_0 : Cond.fieldLink RX2 17 "PartSketch$Body" "xSides" "[I" ∈ wsX2_takenCells := by decide +kernel
theorem wmX2_takenCells_taken_1 : Cond.fieldLink RX2 21 "PartSketch$Body" "ySides" "[I" ∈ wsX2_takenCells := by decide +kernel
set_option maxHeartbeats 4000000 in
set_option maxRecDepth 100000 in
/-- Body.takenCells -/
theorem c_taken (l : Launch) (G : gT) (a : aBd) (b : tBd) (hn : b.2.1 ≤ 8) (sz : Nat) : MI l yX2_takenCells wsX2_takenCells ({ frames := 2, cells := 0, slots := 0, locals := 48 }) G [.ref a.1] (wBd G a b) (wBd G a (b.1, b.2.1, (bdGs b).2.1, (bdGs b).2.2, b.2.2.2.2)) sz (bdTaken b) 0 0 := by
  have hle : (bdGs b).1 ≤ 16 := Nat.le_trans (gsK_le _ _ _ _) (by omega)
  refine m_of (Qc := fun A9 => (va_Qi (fun (r9 : Int32) (_ : Unit) => r9 = (bdTaken b)) (fun _ t9 => wPost G A9 (wBd G a (b.1, b.2.1, (bdGs b).2.1, (bdGs b).2.2, b.2.2.2.2)) t9) A9)) (cc := cX2_takenCells) (maxL := 6) (ret := (some .int)) (by decide) rfl (Nat.le_of_ble_eq_true rfl) ?_
  intro p9 e9 s9 m9 A9 be9 mt9 c9 H locs ls hx hb hr hts hown hlocks hin hml hK hA hw hl
  have hl : lv_has ls 6 [(0, .ref a.1)] := hl
  refine lv_aload_n hx hb dX2_takenCells_0 rfl (lv_at hl 0 rfl) ?_
  have hwc : wW G A9 s9.heap (([] : va_W) ++ ((wBd G a b) ++ ([] : va_W))) H locs := hw
  refine r_calli (res := (nI (bdGs b).1)) (u := ([] : va_W)) (w := wBd G a b) (v := ([] : va_W)) (va_runV (As := []) (rest := []) ⟨hx, hb, hml, hown, hts⟩ (c_gather l G a b (by first | assumption | omega | decide) H.size) (cwV 0 hts gX2_takenCells_X2_gatherSides rfl rfl rfl (by decide +kernel) ⟨Nat.le_of_ble_eq_true rfl, Nat.le_of_ble_eq_true rfl⟩) (r_preV (ci := 2) (q0 := 0) hK hwc rfl rfl rfl) rfl rfl hl.1 rfl (lv_room (Nat.le_of_ble_eq_true rfl)) dX2_takenCells_1 ⟨Nat.le_of_ble_eq_true rfl, Nat.le_of_ble_eq_true rfl⟩) hwc hA rfl rfl (fun H locs hw => ?_)
  have hw : wW G A9 s9.heap (wBd G a (b.1, b.2.1, (bdGs b).2.1, (bdGs b).2.2, b.2.2.2.2)) H locs := hw
  refine lv_istore_n (lv' := [(1, .int (nI (bdGs b).1)), (0, .ref a.1)]) hx hb dX2_takenCells_4 rfl hl (by decide) rfl (fun ls hl => ?_)
  refine lv_iconst (v := 0) hx hb dX2_takenCells_5 (by decide) ?_
  refine lv_istore_n (lv' := [(2, .int 0), (1, .int (nI (bdGs b).1)), (0, .ref a.1)]) hx hb dX2_takenCells_6 rfl hl (by decide) rfl (fun ls hl => ?_)
  refine lv_iconst (v := 1) hx hb dX2_takenCells_7 (by decide) ?_
  refine lv_istore_n (lv' := [(3, .int 1), (2, .int 0), (1, .int (nI (bdGs b).1)), (0, .ref a.1)]) hx hb dX2_takenCells_8 rfl hl (by decide) rfl (fun ls hl => ?_)
  have loop_9 : ∀ (nf : Nat) (i : Nat) (hnf : ((bdGs b).1 - i) < nf) (hi : i ≤ (bdGs b).1 - 1), ∀ (H : Heap) (locs : List Loc) (ls : Array Slot), wW G A9 s9.heap (wBd G a (b.1, b.2.1, (bdGs b).2.1, (bdGs b).2.2, b.2.2.2.2)) H locs → lv_has ls 6 [(0, .ref a.1), (1, .int (nI (bdGs b).1)), (2, .int (tkAll b.2.2.2.2 b.2.1 (bdGs b).2.1 (bdGs b).2.2 (bdGs b).1 i)), (3, .int (nI (i + 1)))] → W p9 l e9 ({ frames := 2, cells := 0, slots := 0, locals := 48 }) s9 m9 [.ref a.1].toArray be9 mt9 c9 H locs 0 0 (MQ be9 (va_Qi (fun (r9 : Int32) (_ : Unit) => r9 = (bdTaken b)) (fun _ t9 => wPost G A9 (wBd G a (b.1, b.2.1, (bdGs b).2.1, (bdGs b).2.2, b.2.2.2.2)) t9) A9) [.ref a.1].toArray s9 0 0 A9) (F0 m9 9 ls []) := by
    intro nf
    induction nf with
    | zero => intro i hnf hi; exact absurd hnf (Nat.not_lt_zero _)
    | succ nf ih_9 =>
      intro i hnf hi H locs ls hw hl
      refine lv_iload_n hx hb dX2_takenCells_9 rfl (lv_at hl 3 rfl) ?_
      refine lv_iload_n hx hb dX2_takenCells_10 rfl (lv_at hl 1 rfl) ?_
      refine lv_icmp_ge (tgt := 102) hx hb dX2_takenCells_11 (by decide) (fun c_11 => ?_) (fun c_11 => ?_)
      · have hx_11 : (bdGs b).1 ≤ i + 1 := ct_ge (k := i + 1) (n := (bdGs b).1) (by omega) (by omega) c_11
        refine lv_iload_n hx hb dX2_takenCells_102 rfl (lv_at hl 2 rfl) ?_
        exact m_iret hx hb hr hlocks hK hw (Nat.le_of_ble_eq_true rfl) (Nat.le_of_ble_eq_true rfl) dX2_takenCells_103 (show (tkAll b.2.2.2.2 b.2.1 (bdGs b).2.1 (bdGs b).2.2 (bdGs b).1 i : Int32) = bdTaken b by unfold bdTaken; rw [show i = (bdGs b).1 - 1 by omega]) rfl
      · have hc_11 : i + 1 < (bdGs b).1 := ct_nge (k := i + 1) (n := (bdGs b).1) (by omega) (by omega) c_11
        refine lv_iconst (v := 1) hx hb dX2_takenCells_14 (by decide) ?_
        refine lv_istore (lv' := [(4, .int 1), (0, .ref a.1), (1, .int (nI (bdGs b).1)), (2, .int (tkAll b.2.2.2.2 b.2.1 (bdGs b).2.1 (bdGs b).2.2 (bdGs b).1 i)), (3, .int (nI (i + 1)))]) hx hb dX2_takenCells_15 hl (by decide) rfl (fun ls hl => ?_)
        have loop_17 : ∀ (nf : Nat) (j : Nat) (hnf : ((bdGs b).1 - j) < nf) (hj : j ≤ (bdGs b).1 - 1), ∀ (H : Heap) (locs : List Loc) (ls : Array Slot), wW G A9 s9.heap (wBd G a (b.1, b.2.1, (bdGs b).2.1, (bdGs b).2.2, b.2.2.2.2)) H locs → lv_has ls 6 [(0, .ref a.1), (1, .int (nI (bdGs b).1)), (2, .int (tkRow b.2.2.2.2 b.2.1 (bdGs b).2.1 (bdGs b).2.2 i (tkAll b.2.2.2.2 b.2.1 (bdGs b).2.1 (bdGs b).2.2 (bdGs b).1 i) j)), (3, .int (nI (i + 1))), (4, .int (nI (j + 1)))] → W p9 l e9 ({ frames := 2, cells := 0, slots := 0, locals := 48 }) s9 m9 [.ref a.1].toArray be9 mt9 c9 H locs 0 0 (MQ be9 (va_Qi (fun (r9 : Int32) (_ : Unit) => r9 = (bdTaken b)) (fun _ t9 => wPost G A9 (wBd G a (b.1, b.2.1, (bdGs b).2.1, (bdGs b).2.2, b.2.2.2.2)) t9) A9) [.ref a.1].toArray s9 0 0 A9) (F0 m9 17 ls []) := by
          intro nf
          induction nf with
          | zero => intro j hnf hj; exact absurd hnf (Nat.not_lt_zero _)
          | succ nf ih_17 =>
            intro j hnf hj H locs ls hw hl
            refine lv_iload hx hb dX2_takenCells_17 (lv_at hl 4 rfl) ?_
            refine lv_iload_n hx hb dX2_takenCells_19 rfl (lv_at hl 1 rfl) ?_
            refine lv_icmp_ge (tgt := 96) hx hb dX2_takenCells_20 (by decide) (fun c_20 => ?_) (fun c_20 => ?_)
            · have hx_20 : (bdGs b).1 ≤ j + 1 := ct_ge (k := j + 1) (n := (bdGs b).1) (by omega) (by omega) c_20
              refine lv_iinc (v := nI ((i + 1) + 1)) (lv' := [(3, .int (nI ((i + 1) + 1))), (0, .ref a.1), (1, .int (nI (bdGs b).1)), (2, .int (tkRow b.2.2.2.2 b.2.1 (bdGs b).2.1 (bdGs b).2.2 i (tkAll b.2.2.2.2 b.2.1 (bdGs b).2.1 (bdGs b).2.2 (bdGs b).1 i) j)), (4, .int (nI (j + 1)))]) hx hb dX2_takenCells_96 hl (k := 3) rfl (nI_add (i + 1) 1) (by decide) rfl (fun ls hl => ?_)
              refine lv_goto (tgt := 9) hx hb dX2_takenCells_99 (by decide) ?_
              exact ih_9 (i + 1) (by omega) (by first | assumption | omega | rfl) _ _ _ hw (lv_sub hl [1, 2, 3, 0] (show lv_pick [(3, .int (nI ((i + 1) + 1))), (0, .ref a.1), (1, .int (nI (bdGs b).1)), (2, .int (tkRow b.2.2.2.2 b.2.1 (bdGs b).2.1 (bdGs b).2.2 i (tkAll b.2.2.2.2 b.2.1 (bdGs b).2.1 (bdGs b).2.2 (bdGs b).1 i) j)), (4, .int (nI (j + 1)))] [1, 2, 3, 0] = [(0, .ref a.1), (1, .int (nI (bdGs b).1)), (2, .int (tkAll b.2.2.2.2 b.2.1 (bdGs b).2.1 (bdGs b).2.2 (bdGs b).1 (i + 1))), (3, .int (nI ((i + 1) + 1)))] by rw [show j = (bdGs b).1 - 1 by omega]; rfl))
            · have hc_20 : j + 1 < (bdGs b).1 := ct_nge (k := j + 1) (n := (bdGs b).1) (by omega) (by omega) c_20
              refine lv_aload_n hx hb dX2_takenCells_23 rfl (lv_at hl 0 rfl) ?_
              refine r_get (ci := 2) (v := .ref a.2.2.1) (C := RX2) (T := TX2) (N := 5) hx hb hts wiX2_takenCells_taken_X2 hown hK hw 0 rfl rfl 3 (by decide) wmX2_takenCells_taken_0 (fun _ h9 => h9) rfl dX2_takenCells_24 ?_
              refine lv_iload_n hx hb dX2_takenCells_27 rfl (lv_at hl 3 rfl) ?_
              refine r_iald (v := ((bdGs b).2.1) (i + 1)) hx hb hK hw 2 rfl (i + 1) rfl (by omega) (by decide) rfl dX2_takenCells_28 ?_
              refine lv_aload_n hx hb dX2_takenCells_29 rfl (lv_at hl 0 rfl) ?_
              refine r_get (ci := 2) (v := .ref a.2.2.1) (C := RX2) (T := TX2) (N := 5) hx hb hts wiX2_takenCells_taken_X2 hown hK hw 0 rfl rfl 3 (by decide) wmX2_takenCells_taken_0 (fun _ h9 => h9) rfl dX2_takenCells_30 ?_
              refine lv_iload_n hx hb dX2_takenCells_33 rfl (lv_at hl 3 rfl) ?_
              refine lv_iconst (v := 1) hx hb dX2_takenCells_34 (by decide) ?_
              refine lv_isub hx hb dX2_takenCells_35 ?_
              refine r_top (y := nI i) (nI_pred i) ?_
              refine r_iald (v := ((bdGs b).2.1) i) hx hb hK hw 2 rfl i rfl (by omega) (by decide) rfl dX2_takenCells_36 ?_
              refine lv_isub hx hb dX2_takenCells_37 ?_
              refine lv_aload_n hx hb dX2_takenCells_38 rfl (lv_at hl 0 rfl) ?_
              refine r_get (ci := 2) (v := .ref a.2.2.2.1) (C := RX2) (T := TX2) (N := 5) hx hb hts wiX2_takenCells_taken_X2 hown hK hw 0 rfl rfl 4 (by decide) wmX2_takenCells_taken_1 (fun _ h9 => h9) rfl dX2_takenCells_39 ?_
              refine lv_iload hx hb dX2_takenCells_42 (lv_at hl 4 rfl) ?_
              refine r_iald (v := ((bdGs b).2.2) (j + 1)) hx hb hK hw 3 rfl (j + 1) rfl (by omega) (by decide) rfl dX2_takenCells_44 ?_
              refine lv_aload_n hx hb dX2_takenCells_45 rfl (lv_at hl 0 rfl) ?_
              refine r_get (ci := 2) (v := .ref a.2.2.2.1) (C := RX2) (T := TX2) (N := 5) hx hb hts wiX2_takenCells_taken_X2 hown hK hw 0 rfl rfl 4 (by decide) wmX2_takenCells_taken_1 (fun _ h9 => h9) rfl dX2_takenCells_46 ?_
              refine lv_iload hx hb dX2_takenCells_49 (lv_at hl 4 rfl) ?_
              refine lv_iconst (v := 1) hx hb dX2_takenCells_51 (by decide) ?_
              refine lv_isub hx hb dX2_takenCells_52 ?_
              refine r_top (y := nI j) (nI_pred j) ?_
              refine r_iald (v := ((bdGs b).2.2) j) hx hb hK hw 3 rfl j rfl (by omega) (by decide) rfl dX2_takenCells_53 ?_
              refine lv_isub hx hb dX2_takenCells_54 ?_
              refine lv_imul hx hb dX2_takenCells_55 ?_
              refine r_top (y := bdCol (bdGs b).2.1 (bdGs b).2.2 i j) rfl ?_
              refine lv_istore (lv' := [(5, .int (bdCol (bdGs b).2.1 (bdGs b).2.2 i j)), (0, .ref a.1), (1, .int (nI (bdGs b).1)), (2, .int (tkRow b.2.2.2.2 b.2.1 (bdGs b).2.1 (bdGs b).2.2 i (tkAll b.2.2.2.2 b.2.1 (bdGs b).2.1 (bdGs b).2.2 (bdGs b).1 i) j)), (3, .int (nI (i + 1))), (4, .int (nI (j + 1)))]) hx hb dX2_takenCells_56 hl (by decide) rfl (fun ls hl => ?_)
              refine lv_iload hx hb dX2_takenCells_58 (lv_at hl 0 rfl) ?_
              refine lv_if_le (tgt := 90) hx hb dX2_takenCells_60 (by decide) (fun c_60 => ?_) (fun c_60 => ?_)
              · refine lv_iinc (v := nI ((j + 1) + 1)) (lv' := [(4, .int (nI ((j + 1) + 1))), (5, .int (bdCol (bdGs b).2.1 (bdGs b).2.2 i j)), (0, .ref a.1), (1, .int (nI (bdGs b).1)), (2, .int (tkRow b.2.2.2.2 b.2.1 (bdGs b).2.1 (bdGs b).2.2 i (tkAll b.2.2.2.2 b.2.1 (bdGs b).2.1 (bdGs b).2.2 (bdGs b).1 i) j)), (3, .int (nI (i + 1)))]) hx hb dX2_takenCells_90 hl (k := 5) rfl (nI_add (j + 1) 1) (by decide) rfl (fun ls hl => ?_)
                refine lv_goto (tgt := 17) hx hb dX2_takenCells_93 (by decide) ?_
                exact ih_17 (j + 1) (by omega) (by first | assumption | omega | rfl) _ _ _ hw (lv_sub hl [2, 3, 4, 5, 0] (show lv_pick [(4, .int (nI ((j + 1) + 1))), (5, .int (bdCol (bdGs b).2.1 (bdGs b).2.2 i j)), (0, .ref a.1), (1, .int (nI (bdGs b).1)), (2, .int (tkRow b.2.2.2.2 b.2.1 (bdGs b).2.1 (bdGs b).2.2 i (tkAll b.2.2.2.2 b.2.1 (bdGs b).2.1 (bdGs b).2.2 (bdGs b).1 i) j)), (3, .int (nI (i + 1)))] [2, 3, 4, 5, 0] = [(0, .ref a.1), (1, .int (nI (bdGs b).1)), (2, .int (tkRow b.2.2.2.2 b.2.1 (bdGs b).2.1 (bdGs b).2.2 i (tkAll b.2.2.2.2 b.2.1 (bdGs b).2.1 (bdGs b).2.2 (bdGs b).1 i) (j + 1))), (3, .int (nI (i + 1))), (4, .int (nI ((j + 1) + 1)))] by simp only [tkRow, if_pos c_60]; rfl))
              · refine lv_iload_n hx hb dX2_takenCells_63 rfl (lv_at hl 3 rfl) ?_
                refine lv_iload hx hb dX2_takenCells_64 (lv_at hl 0 rfl) ?_
                refine lv_aload_n hx hb dX2_takenCells_66 rfl (lv_at hl 1 rfl) ?_
                refine lv_aload_n hx hb dX2_takenCells_67 rfl (lv_at hl 1 rfl) ?_
                refine r_get (ci := 2) (v := .ref a.2.2.1) (C := RX2) (T := TX2) (N := 5) hx hb hts wiX2_takenCells_taken_X2 hown hK hw 0 rfl rfl 3 (by decide) wmX2_takenCells_taken_0 (fun _ h9 => h9) rfl dX2_takenCells_68 ?_
                refine lv_iload_n hx hb dX2_takenCells_71 rfl (lv_at hl 4 rfl) ?_
                refine lv_iconst (v := 1) hx hb dX2_takenCells_72 (by decide) ?_
                refine lv_isub hx hb dX2_takenCells_73 ?_
                refine r_top (y := nI i) (nI_pred i) ?_
                refine r_iald (v := ((bdGs b).2.1) i) hx hb hK hw 2 rfl i rfl (by omega) (by decide) rfl dX2_takenCells_74 ?_
                refine lv_aload_n hx hb dX2_takenCells_75 rfl (lv_at hl 1 rfl) ?_
                refine r_get (ci := 2) (v := .ref a.2.2.2.1) (C := RX2) (T := TX2) (N := 5) hx hb hts wiX2_takenCells_taken_X2 hown hK hw 0 rfl rfl 4 (by decide) wmX2_takenCells_taken_1 (fun _ h9 => h9) rfl dX2_takenCells_76 ?_
                refine lv_iload hx hb dX2_takenCells_79 (lv_at hl 5 rfl) ?_
                refine lv_iconst (v := 1) hx hb dX2_takenCells_81 (by decide) ?_
                refine lv_isub hx hb dX2_takenCells_82 ?_
                refine r_top (y := nI j) (nI_pred j) ?_
                refine r_iald (v := ((bdGs b).2.2) j) hx hb hK hw 3 rfl j rfl (by omega) (by decide) rfl dX2_takenCells_83 ?_
                have hwc : wW G A9 s9.heap (([] : va_W) ++ ((wBd G a (b.1, b.2.1, (bdGs b).2.1, (bdGs b).2.2, b.2.2.2.2)) ++ ([] : va_W))) H locs := hw
                refine r_calli (res := (bitc (ltK b.2.2.2.2 (((bdGs b).2.1) i) (((bdGs b).2.2) j) b.2.1))) (u := ([] : va_W)) (w := wBd G a (b.1, b.2.1, (bdGs b).2.1, (bdGs b).2.2, b.2.2.2.2)) (v := ([] : va_W)) (va_runV (As := [.int (((bdGs b).2.1) i), .int (((bdGs b).2.2) j)]) (rest := [.int (bdCol (bdGs b).2.1 (bdGs b).2.2 i j), .int (tkRow b.2.2.2.2 b.2.1 (bdGs b).2.1 (bdGs b).2.2 i (tkAll b.2.2.2.2 b.2.1 (bdGs b).2.1 (bdGs b).2.2 (bdGs b).1 i) j)]) ⟨hx, hb, hml, hown, hts⟩ (c_layersTaken l G a (b.1, b.2.1, (bdGs b).2.1, (bdGs b).2.2, b.2.2.2.2) (((bdGs b).2.1) i) (((bdGs b).2.2) j) (by first | assumption | omega | decide) H.size) (cwV 2 hts gX2_takenCells_X2_layersTaken rfl rfl rfl (by decide +kernel) ⟨Nat.le_of_ble_eq_true rfl, Nat.le_of_ble_eq_true rfl⟩) (r_preV (ci := 2) (q0 := 0) hK hwc rfl rfl rfl) rfl rfl hl.1 rfl (lv_room (Nat.le_of_ble_eq_true rfl)) dX2_takenCells_84 ⟨Nat.le_of_ble_eq_true rfl, Nat.le_of_ble_eq_true rfl⟩) hwc hA rfl rfl (fun H locs hw => ?_)
                have hw : wW G A9 s9.heap (wBd G a (b.1, b.2.1, (bdGs b).2.1, (bdGs b).2.2, b.2.2.2.2)) H locs := hw
                refine lv_imul hx hb dX2_takenCells_87 ?_
                refine lv_iadd hx hb dX2_takenCells_88 ?_
                refine lv_istore_n (lv' := [(2, .int ((tkRow b.2.2.2.2 b.2.1 (bdGs b).2.1 (bdGs b).2.2 i (tkAll b.2.2.2.2 b.2.1 (bdGs b).2.1 (bdGs b).2.2 (bdGs b).1 i) j) + ((bdCol (bdGs b).2.1 (bdGs b).2.2 i j) * (bitc (ltK b.2.2.2.2 (((bdGs b).2.1) i) (((bdGs b).2.2) j) b.2.1))))), (5, .int (bdCol (bdGs b).2.1 (bdGs b).2.2 i j)), (0, .ref a.1), (1, .int (nI (bdGs b).1)), (3, .int (nI (i + 1))), (4, .int (nI (j + 1)))]) hx hb dX2_takenCells_89 rfl hl (by decide) rfl (fun ls hl => ?_)
                refine lv_iinc (v := nI ((j + 1) + 1)) (lv' := [(4, .int (nI ((j + 1) + 1))), (2, .int ((tkRow b.2.2.2.2 b.2.1 (bdGs b).2.1 (bdGs b).2.2 i (tkAll b.2.2.2.2 b.2.1 (bdGs b).2.1 (bdGs b).2.2 (bdGs b).1 i) j) + ((bdCol (bdGs b).2.1 (bdGs b).2.2 i j) * (bitc (ltK b.2.2.2.2 (((bdGs b).2.1) i) (((bdGs b).2.2) j) b.2.1))))), (5, .int (bdCol (bdGs b).2.1 (bdGs b).2.2 i j)), (0, .ref a.1), (1, .int (nI (bdGs b).1)), (3, .int (nI (i + 1)))]) hx hb dX2_takenCells_90 hl (k := 5) rfl (nI_add (j + 1) 1) (by decide) rfl (fun ls hl => ?_)
                refine lv_goto (tgt := 17) hx hb dX2_takenCells_93 (by decide) ?_
                exact ih_17 (j + 1) (by omega) (by first | assumption | omega | rfl) _ _ _ hw (lv_sub hl [3, 4, 1, 5, 0] (show lv_pick [(4, .int (nI ((j + 1) + 1))), (2, .int ((tkRow b.2.2.2.2 b.2.1 (bdGs b).2.1 (bdGs b).2.2 i (tkAll b.2.2.2.2 b.2.1 (bdGs b).2.1 (bdGs b).2.2 (bdGs b).1 i) j) + ((bdCol (bdGs b).2.1 (bdGs b).2.2 i j) * (bitc (ltK b.2.2.2.2 (((bdGs b).2.1) i) (((bdGs b).2.2) j) b.2.1))))), (5, .int (bdCol (bdGs b).2.1 (bdGs b).2.2 i j)), (0, .ref a.1), (1, .int (nI (bdGs b).1)), (3, .int (nI (i + 1)))] [3, 4, 1, 5, 0] = [(0, .ref a.1), (1, .int (nI (bdGs b).1)), (2, .int (tkRow b.2.2.2.2 b.2.1 (bdGs b).2.1 (bdGs b).2.2 i (tkAll b.2.2.2.2 b.2.1 (bdGs b).2.1 (bdGs b).2.2 (bdGs b).1 i) (j + 1))), (3, .int (nI (i + 1))), (4, .int (nI ((j + 1) + 1)))] by simp only [tkRow, if_neg c_60]; rfl))
        exact loop_17 (((bdGs b).1 - 0) + 1) 0 (Nat.lt_succ_self _) (by first | assumption | omega | rfl) _ _ _ hw (lv_sub hl [1, 2, 3, 4, 0] rfl)
  exact loop_9 (((bdGs b).1 - 0) + 1) 0 (Nat.lt_succ_self _) (by first | assumption | omega | rfl) _ _ _ hw (lv_sub hl [3, 2, 1, 0] rfl)
