/-! PartSketch: which calls throw what, and what the others do -/
def exReach (u : Int32) : Option String := if u < -100 then some "java/lang/IllegalArgumentException" else if u ≤ 100 then none else some "java/lang/IllegalArgumentException"
def exDepth (u : Int32) : Option String := if u < 1 then some "java/lang/IllegalArgumentException" else if u ≤ 50 then none else some "java/lang/IllegalArgumentException"
def exVar (u : Int32) : Option String := if u < 0 then some "java/lang/IllegalArgumentException" else if u < 4 then none else some "java/lang/IllegalArgumentException"
def exIn (n : Nat) (i : Int32) : Option String := if i < 0 then some "java/lang/IndexOutOfBoundsException" else if i < nI n then none else some "java/lang/IndexOutOfBoundsException"
def exSized (k : Int32) : Option String := if k = 2 then some "java/lang/IllegalStateException" else none
theorem x_lt {a b : Nat} (ha : a < 2 ^ 31) (hb : b < 2 ^ 31) (h : nI a < nI b) : a < b := Nat.not_le.mp fun h9 => absurd ((nI_leI hb ha).mpr h9) (Int32.not_le.mpr h)
theorem exIn_lt {n : Nat} {i : Int32} (hn : n < 2 ^ 31) (h : exIn n i = none) : iN i < n := by
  unfold exIn at h
  by_cases h0 : i < 0
  · rw [if_pos h0] at h; exact absurd h (by simp)
  · by_cases h1 : i < nI n
    · have p0 : 0 ≤ i.toInt := by
        rw [Int32.lt_iff_toInt_lt] at h0
        have : (0 : Int32).toInt = 0 := by decide
        omega
      rw [Int32.lt_iff_toInt_lt, nI_toInt hn] at h1
      have e : i.toInt = ((iN i : Nat) : Int) := by
        show i.toBitVec.toInt = _
        have p1 : 0 ≤ i.toBitVec.toInt := p0
        rw [BitVec.toInt_eq_toNat_cond] at p1 ⊢
        show _ = (i.toBitVec.toNat : Int)
        split
        · rfl
        · rename_i hge
          rw [if_neg hge] at p1
          have := i.toBitVec.isLt
          omega
      omega
    · rw [if_neg h0, if_neg h1] at h; exact absurd h (by simp)
theorem exVar_lt {v : Int32} (h : exVar v = none) : iN v < 4 := exIn_lt (n := 4) (i := v) (by decide) (by
  unfold exVar at h
  unfold exIn
  by_cases h0 : v < 0
  · rw [if_pos h0] at h; exact absurd h (by simp)
  · rw [if_neg h0] at h ⊢
    by_cases h1 : v < 4
    · rw [if_pos (show v < nI 4 from h1)]
    · rw [if_neg h1] at h; exact absurd h (by simp))
def exPoint (n : Nat) (u v : Int32) : Option String := xo (exReach u) (xo (exReach v) (if nI n < 16 then none else some "java/lang/IllegalStateException"))
def exHint (n : Nat) (i u v : Int32) : Option String := xo (exIn n i) (xo (exReach u) (exReach v))
def exWish (n c : Nat) (k i j d : Int32) : Option String := if k < 0 then some "java/lang/IllegalArgumentException" else if k ≤ 2 then (if k = 2 then xo (exIn n i) (if nI c < 40 then none else some "java/lang/IllegalStateException") else xo (exReach d) (if i = j then some "java/lang/IllegalArgumentException" else xo (exIn n i) (xo (exIn n j) (if nI c < 40 then none else some "java/lang/IllegalStateException")))) else some "java/lang/IllegalArgumentException"
def exType (c : Nat) (k : Nat → Int32) (w d : Int32) : Option String := xo (exIn c w) (xo (exSized (k (iN w))) (exReach d))
def exTell (c : Nat) (k : Nat → Int32) (v w d : Int32) : Option String := xo (exVar v) (xo (exReach d) (xo (exIn c w) (exSized (k (iN w)))))
def exBase (n : Nat) (i j h : Int32) : Option String := xo (exIn n i) (xo (exIn n j) (exDepth h))
def exPock (n q : Nat) (f i j d t : Int32) : Option String := xo (exIn n i) (xo (exIn n j) (xo (if t = -1 then none else exIn q t) (xo (exDepth d) (if f = 0 then some "java/lang/IllegalStateException" else if nI q < 8 then none else some "java/lang/IllegalStateException"))))
def rwWish (r : tRw) (k i j d : Int32) : tRw := if k = 2 then rwApp r k (iN i) (iN i) 0 else rwApp r k (iN i) (iN j) d
def rwSt (r : tRw) (f : Nat → Int32) : tRw := (r.1, r.2.1, r.2.2.1, r.2.2.2.1, r.2.2.2.2.1, f, r.2.2.2.2.2.2)
def skBase (b : tBd) (i j : Nat) (h : Int32) : tBd := (1, b.2.1, b.2.2.1, b.2.2.2.1, (updB b.2.2.2.2 0 (i, j, h, none, (b.2.2.2.2 0).2.2.2.2.1, (b.2.2.2.2 0).2.2.2.2.2.1, (b.2.2.2.2 0).2.2.2.2.2.2.1, (b.2.2.2.2 0).2.2.2.2.2.2.2.1, (b.2.2.2.2 0).2.2.2.2.2.2.2.2.1, (b.2.2.2.2 0).2.2.2.2.2.2.2.2.2)))
def skPock (b : tBd) (i j : Nat) (d t : Int32) : tBd := (b.1, b.2.1 + 1, b.2.2.1, b.2.2.2.1, (updB b.2.2.2.2 (1 + b.2.1) (i, j, d, some (iN (1 + t)), (b.2.2.2.2 (1 + b.2.1)).2.2.2.2.1, (b.2.2.2.2 (1 + b.2.1)).2.2.2.2.2.1, (b.2.2.2.2 (1 + b.2.1)).2.2.2.2.2.2.1, (b.2.2.2.2 (1 + b.2.1)).2.2.2.2.2.2.2.1, (b.2.2.2.2 (1 + b.2.1)).2.2.2.2.2.2.2.2.1, (b.2.2.2.2 (1 + b.2.1)).2.2.2.2.2.2.2.2.2)))

theorem wmX4_requireReach_reqReach_0 : Cond.classLink RX4 55 "java/lang/IllegalArgumentException" ∈ wsX4_requireReach := by decide +kernel
theorem wmX4_requireReach_reqReach_1 : Cond.initialized "java/lang/IllegalArgumentException" ∈ wsX4_requireReach := by decide +kernel
theorem wxX4_requireReach_reqReach_A : ∀ w ∈ (vx_atS RX4 59 "java/lang/IllegalArgumentException" ["java/lang/RuntimeException", "java/lang/Exception"]).filter goodWord, w ∈ wsX4_requireReach := by
  intro w h
  simp only [wsX4_requireReach, List.mem_cons, List.mem_append, h, or_true, true_or]
set_option maxHeartbeats 4000000 in
set_option maxRecDepth 100000 in
/-- X4_requireReach -/
theorem c_reqReach (l : Launch) (G : gT) (hst : l.stackTraces = false) (X : Nat → Nat) (u : Int32) (sz : Nat) : XV l yX4_requireReach wsX4_requireReach ({ frames := 6, cells := 1, slots := 6, locals := 90 }) G X [.int u] ([] : va_W) ([] : va_W) sz (exReach u) 1 6 := by
  refine x_of (Qc := fun A9 => (va_Qv (fun (_ : Unit) => (exReach u) = none) (fun _ t9 => wPost G A9 ([] : va_W) t9) A9)) (XC := fun A9 => (xC G A9 ([] : va_W) (exReach u))) (cc := cX4_requireReach) (maxL := 1) (ret := none) (by decide) rfl (Nat.le_of_ble_eq_true rfl) ?_
  intro p9 e9 s9 m9 A9 be9 mt9 c9 H locs ls hx hb hr hts hown hlocks hin hml htab hK hA hF hw hl
  have hl : lv_has ls 1 [(0, .int u)] := hl
  refine lv_iload_n hx hb dX4_requireReach_0 rfl (lv_at hl 0 rfl) ?_
  refine lv_bipush (v := (-100)) hx hb dX4_requireReach_1 (by decide) ?_
  refine lv_icmp_lt (tgt := 12) hx hb dX4_requireReach_3 (by decide) (fun c_3 => ?_) (fun c_3 => ?_)
  · exact x_throw (text := "a number is not from -100 to 100") hx hb hst hown (by decide +kernel) (hts _ wmX4_requireReach_reqReach_0) (hts _ wmX4_requireReach_reqReach_1) (by decide +kernel) (fun w h => hts w (wxX4_requireReach_reqReach_A w h)) xbA xgA hF hK hw (hl.1.trans hml.symm) dX4_requireReach_12 dX4_requireReach_15 dX4_requireReach_16 dX4_requireReach_18 dX4_requireReach_21 htab (Nat.le_of_ble_eq_true rfl) (Nat.le_of_ble_eq_true rfl) (Nat.le_of_ble_eq_true rfl) (Nat.le_of_ble_eq_true rfl) hlocks (by simp only [exReach, xo, if_pos c_3]) rfl (Nat.le_of_ble_eq_true rfl) (Nat.le_of_ble_eq_true rfl)
  · refine lv_iload_n hx hb dX4_requireReach_6 rfl (lv_at hl 0 rfl) ?_
    refine lv_bipush (v := 100) hx hb dX4_requireReach_7 (by decide) ?_
    refine lv_icmp_le (tgt := 22) hx hb dX4_requireReach_9 (by decide) (fun c_9 => ?_) (fun c_9 => ?_)
    · exact x_vret hx hb hr hlocks hK hw (Nat.le_of_ble_eq_true rfl) (Nat.le_of_ble_eq_true rfl) dX4_requireReach_22 (by simp only [exReach, xo, if_neg c_3, if_pos c_9]) rfl
    · exact x_throw (text := "a number is not from -100 to 100") hx hb hst hown (by decide +kernel) (hts _ wmX4_requireReach_reqReach_0) (hts _ wmX4_requireReach_reqReach_1) (by decide +kernel) (fun w h => hts w (wxX4_requireReach_reqReach_A w h)) xbA xgA hF hK hw (hl.1.trans hml.symm) dX4_requireReach_12 dX4_requireReach_15 dX4_requireReach_16 dX4_requireReach_18 dX4_requireReach_21 htab (Nat.le_of_ble_eq_true rfl) (Nat.le_of_ble_eq_true rfl) (Nat.le_of_ble_eq_true rfl) (Nat.le_of_ble_eq_true rfl) hlocks (by simp only [exReach, xo, if_neg c_3, if_neg c_9]) rfl (Nat.le_of_ble_eq_true rfl) (Nat.le_of_ble_eq_true rfl)

theorem wmX4_requireDepth_reqDepth_0 : Cond.classLink RX4 55 "java/lang/IllegalArgumentException" ∈ wsX4_requireDepth := by decide +kernel
theorem wmX4_requireDepth_reqDepth_1 : Cond.initialized "java/lang/IllegalArgumentException" ∈ wsX4_requireDepth := by decide +kernel
theorem wxX4_requireDepth_reqDepth_A : ∀ w ∈ (vx_atS RX4 59 "java/lang/IllegalArgumentException" ["java/lang/RuntimeException", "java/lang/Exception"]).filter goodWord, w ∈ wsX4_requireDepth := by
  intro w h
  simp only [wsX4_requireDepth, List.mem_cons, List.mem_append, h, or_true, true_or]
set_option maxHeartbeats 4000000 in
set_option maxRecDepth 100000 in
/-- X4_requireDepth -/
theorem c_reqDepth (l : Launch) (G : gT) (hst : l.stackTraces = false) (X : Nat → Nat) (u : Int32) (sz : Nat) : XV l yX4_requireDepth wsX4_requireDepth ({ frames := 6, cells := 1, slots := 6, locals := 90 }) G X [.int u] ([] : va_W) ([] : va_W) sz (exDepth u) 1 6 := by
  refine x_of (Qc := fun A9 => (va_Qv (fun (_ : Unit) => (exDepth u) = none) (fun _ t9 => wPost G A9 ([] : va_W) t9) A9)) (XC := fun A9 => (xC G A9 ([] : va_W) (exDepth u))) (cc := cX4_requireDepth) (maxL := 1) (ret := none) (by decide) rfl (Nat.le_of_ble_eq_true rfl) ?_
  intro p9 e9 s9 m9 A9 be9 mt9 c9 H locs ls hx hb hr hts hown hlocks hin hml htab hK hA hF hw hl
  have hl : lv_has ls 1 [(0, .int u)] := hl
  refine lv_iload_n hx hb dX4_requireDepth_0 rfl (lv_at hl 0 rfl) ?_
  refine lv_iconst (v := 1) hx hb dX4_requireDepth_1 (by decide) ?_
  refine lv_icmp_lt (tgt := 11) hx hb dX4_requireDepth_2 (by decide) (fun c_2 => ?_) (fun c_2 => ?_)
  · exact x_throw (text := "a height or depth is not from 1 to 50") hx hb hst hown (by decide +kernel) (hts _ wmX4_requireDepth_reqDepth_0) (hts _ wmX4_requireDepth_reqDepth_1) (by decide +kernel) (fun w h => hts w (wxX4_requireDepth_reqDepth_A w h)) xbA xgA hF hK hw (hl.1.trans hml.symm) dX4_requireDepth_11 dX4_requireDepth_14 dX4_requireDepth_15 dX4_requireDepth_17 dX4_requireDepth_20 htab (Nat.le_of_ble_eq_true rfl) (Nat.le_of_ble_eq_true rfl) (Nat.le_of_ble_eq_true rfl) (Nat.le_of_ble_eq_true rfl) hlocks (by simp only [exDepth, xo, if_pos c_2]) rfl (Nat.le_of_ble_eq_true rfl) (Nat.le_of_ble_eq_true rfl)
  · refine lv_iload_n hx hb dX4_requireDepth_5 rfl (lv_at hl 0 rfl) ?_
    refine lv_bipush (v := 50) hx hb dX4_requireDepth_6 (by decide) ?_
    refine lv_icmp_le (tgt := 21) hx hb dX4_requireDepth_8 (by decide) (fun c_8 => ?_) (fun c_8 => ?_)
    · exact x_vret hx hb hr hlocks hK hw (Nat.le_of_ble_eq_true rfl) (Nat.le_of_ble_eq_true rfl) dX4_requireDepth_21 (by simp only [exDepth, xo, if_neg c_2, if_pos c_8]) rfl
    · exact x_throw (text := "a height or depth is not from 1 to 50") hx hb hst hown (by decide +kernel) (hts _ wmX4_requireDepth_reqDepth_0) (hts _ wmX4_requireDepth_reqDepth_1) (by decide +kernel) (fun w h => hts w (wxX4_requireDepth_reqDepth_A w h)) xbA xgA hF hK hw (hl.1.trans hml.symm) dX4_requireDepth_11 dX4_requireDepth_14 dX4_requireDepth_15 dX4_requireDepth_17 dX4_requireDepth_20 htab (Nat.le_of_ble_eq_true rfl) (Nat.le_of_ble_eq_true rfl) (Nat.le_of_ble_eq_true rfl) (Nat.le_of_ble_eq_true rfl) hlocks (by simp only [exDepth, xo, if_neg c_2, if_neg c_8]) rfl (Nat.le_of_ble_eq_true rfl) (Nat.le_of_ble_eq_true rfl)

theorem wmX4_requireVariant_reqVar_0 : Cond.classLink RX4 55 "java/lang/IllegalArgumentException" ∈ wsX4_requireVariant := by decide +kernel
theorem wmX4_requireVariant_reqVar_1 : Cond.initialized "java/lang/IllegalArgumentException" ∈ wsX4_requireVariant := by decide +kernel
theorem wxX4_requireVariant_reqVar_A : ∀ w ∈ (vx_atS RX4 59 "java/lang/IllegalArgumentException" ["java/lang/RuntimeException", "java/lang/Exception"]).filter goodWord, w ∈ wsX4_requireVariant := by
  intro w h
  simp only [wsX4_requireVariant, List.mem_cons, List.mem_append, h, or_true, true_or]
set_option maxHeartbeats 4000000 in
set_option maxRecDepth 100000 in
/-- X4_requireVariant -/
theorem c_reqVar (l : Launch) (G : gT) (hst : l.stackTraces = false) (X : Nat → Nat) (u : Int32) (sz : Nat) : XV l yX4_requireVariant wsX4_requireVariant ({ frames := 6, cells := 1, slots := 6, locals := 90 }) G X [.int u] ([] : va_W) ([] : va_W) sz (exVar u) 1 6 := by
  refine x_of (Qc := fun A9 => (va_Qv (fun (_ : Unit) => (exVar u) = none) (fun _ t9 => wPost G A9 ([] : va_W) t9) A9)) (XC := fun A9 => (xC G A9 ([] : va_W) (exVar u))) (cc := cX4_requireVariant) (maxL := 1) (ret := none) (by decide) rfl (Nat.le_of_ble_eq_true rfl) ?_
  intro p9 e9 s9 m9 A9 be9 mt9 c9 H locs ls hx hb hr hts hown hlocks hin hml htab hK hA hF hw hl
  have hl : lv_has ls 1 [(0, .int u)] := hl
  refine lv_iload_n hx hb dX4_requireVariant_0 rfl (lv_at hl 0 rfl) ?_
  refine lv_if_lt (tgt := 9) hx hb dX4_requireVariant_1 (by decide) (fun c_1 => ?_) (fun c_1 => ?_)
  · exact x_throw (text := "the variant is not from 0 to 3") hx hb hst hown (by decide +kernel) (hts _ wmX4_requireVariant_reqVar_0) (hts _ wmX4_requireVariant_reqVar_1) (by decide +kernel) (fun w h => hts w (wxX4_requireVariant_reqVar_A w h)) xbA xgA hF hK hw (hl.1.trans hml.symm) dX4_requireVariant_9 dX4_requireVariant_12 dX4_requireVariant_13 dX4_requireVariant_15 dX4_requireVariant_18 htab (Nat.le_of_ble_eq_true rfl) (Nat.le_of_ble_eq_true rfl) (Nat.le_of_ble_eq_true rfl) (Nat.le_of_ble_eq_true rfl) hlocks (by simp only [exVar, xo, if_pos c_1]) rfl (Nat.le_of_ble_eq_true rfl) (Nat.le_of_ble_eq_true rfl)
  · refine lv_iload_n hx hb dX4_requireVariant_4 rfl (lv_at hl 0 rfl) ?_
    refine lv_iconst (v := 4) hx hb dX4_requireVariant_5 (by decide) ?_
    refine lv_icmp_lt (tgt := 19) hx hb dX4_requireVariant_6 (by decide) (fun c_6 => ?_) (fun c_6 => ?_)
    · exact x_vret hx hb hr hlocks hK hw (Nat.le_of_ble_eq_true rfl) (Nat.le_of_ble_eq_true rfl) dX4_requireVariant_19 (by simp only [exVar, xo, if_neg c_1, if_pos c_6]) rfl
    · exact x_throw (text := "the variant is not from 0 to 3") hx hb hst hown (by decide +kernel) (hts _ wmX4_requireVariant_reqVar_0) (hts _ wmX4_requireVariant_reqVar_1) (by decide +kernel) (fun w h => hts w (wxX4_requireVariant_reqVar_A w h)) xbA xgA hF hK hw (hl.1.trans hml.symm) dX4_requireVariant_9 dX4_requireVariant_12 dX4_requireVariant_13 dX4_requireVariant_15 dX4_requireVariant_18 htab (Nat.le_of_ble_eq_true rfl) (Nat.le_of_ble_eq_true rfl) (Nat.le_of_ble_eq_true rfl) (Nat.le_of_ble_eq_true rfl) hlocks (by simp only [exVar, xo, if_neg c_1, if_neg c_6]) rfl (Nat.le_of_ble_eq_true rfl) (Nat.le_of_ble_eq_true rfl)

theorem wiX4_requirePoint_reqPoint_X4 : ∀ w ∈ wsX40, w ∈ wsX4_requirePoint := by decide +kernel
theorem wmX4_requirePoint_reqPoint_0 : Cond.classLink RX4 168 "java/lang/IndexOutOfBoundsException" ∈ wsX4_requirePoint := by decide +kernel
theorem wmX4_requirePoint_reqPoint_1 : Cond.initialized "java/lang/IndexOutOfBoundsException" ∈ wsX4_requirePoint := by decide +kernel
theorem wmX4_requirePoint_reqPoint_2 : Cond.fieldLink RX4 37 "PartSketch" "points" "I" ∈ wsX4_requirePoint := by decide +kernel
theorem wxX4_requirePoint_reqPoint_B : ∀ w ∈ (vx_atS RX4 172 "java/lang/IndexOutOfBoundsException" ["java/lang/RuntimeException", "java/lang/Exception"]).filter goodWord, w ∈ wsX4_requirePoint := by
  intro w h
  simp only [wsX4_requirePoint, List.mem_cons, List.mem_append, h, or_true, true_or]
set_option maxHeartbeats 4000000 in
set_option maxRecDepth 100000 in
/-- requirePoint -/
theorem c_reqPoint (l : Launch) (G : gT) (hst : l.stackTraces = false) (X : Nat → Nat) (so : tOb) (o : Nat) (r : aRw) (x : aAx) (y : aAx) (b : aBd) (i : Int32) (sz : Nat) : XV l yX4_requirePoint wsX4_requirePoint ({ frames := 6, cells := 1, slots := 6, locals := 90 }) G X [.ref o, .int i] (wOb G (o, x.1, y.1, r.1, b.1) so) (wOb G (o, x.1, y.1, r.1, b.1) so) sz (exIn so.1 i) 1 6 := by
  refine x_of (Qc := fun A9 => (va_Qv (fun (_ : Unit) => (exIn so.1 i) = none) (fun _ t9 => wPost G A9 (wOb G (o, x.1, y.1, r.1, b.1) so) t9) A9)) (XC := fun A9 => (xC G A9 (wOb G (o, x.1, y.1, r.1, b.1) so) (exIn so.1 i))) (cc := cX4_requirePoint) (maxL := 2) (ret := none) (by decide) rfl (Nat.le_of_ble_eq_true rfl) ?_
  intro p9 e9 s9 m9 A9 be9 mt9 c9 H locs ls hx hb hr hts hown hlocks hin hml htab hK hA hF hw hl
  have hl : lv_has ls 2 [(0, .ref o), (1, .int i)] := hl
  refine lv_iload_n hx hb dX4_requirePoint_0 rfl (lv_at hl 1 rfl) ?_
  refine lv_if_lt (tgt := 12) hx hb dX4_requirePoint_1 (by decide) (fun c_1 => ?_) (fun c_1 => ?_)
  · exact x_throw (text := "there is no such point") hx hb hst hown (by decide +kernel) (hts _ wmX4_requirePoint_reqPoint_0) (hts _ wmX4_requirePoint_reqPoint_1) (by decide +kernel) (fun w h => hts w (wxX4_requirePoint_reqPoint_B w h)) xbB xgB hF hK hw (hl.1.trans hml.symm) dX4_requirePoint_12 dX4_requirePoint_15 dX4_requirePoint_16 dX4_requirePoint_18 dX4_requirePoint_21 htab (Nat.le_of_ble_eq_true rfl) (Nat.le_of_ble_eq_true rfl) (Nat.le_of_ble_eq_true rfl) (Nat.le_of_ble_eq_true rfl) hlocks (by simp only [exIn, xo, if_pos c_1]) rfl (Nat.le_of_ble_eq_true rfl) (Nat.le_of_ble_eq_true rfl)
  · refine lv_iload_n hx hb dX4_requirePoint_4 rfl (lv_at hl 1 rfl) ?_
    refine lv_aload_n hx hb dX4_requirePoint_5 rfl (lv_at hl 0 rfl) ?_
    refine r_get (ci := 4) (v := .int (nI so.1)) (C := RX4) (T := TX4) (N := 6) hx hb hts wiX4_requirePoint_reqPoint_X4 hown hK hw 0 rfl rfl 4 (by decide) wmX4_requirePoint_reqPoint_2 (fun _ h9 => h9) rfl dX4_requirePoint_6 ?_
    refine lv_icmp_lt (tgt := 22) hx hb dX4_requirePoint_9 (by decide) (fun c_9 => ?_) (fun c_9 => ?_)
    · exact x_vret hx hb hr hlocks hK hw (Nat.le_of_ble_eq_true rfl) (Nat.le_of_ble_eq_true rfl) dX4_requirePoint_22 (by simp only [exIn, xo, if_neg c_1, if_pos c_9]) rfl
    · exact x_throw (text := "there is no such point") hx hb hst hown (by decide +kernel) (hts _ wmX4_requirePoint_reqPoint_0) (hts _ wmX4_requirePoint_reqPoint_1) (by decide +kernel) (fun w h => hts w (wxX4_requirePoint_reqPoint_B w h)) xbB xgB hF hK hw (hl.1.trans hml.symm) dX4_requirePoint_12 dX4_requirePoint_15 dX4_requirePoint_16 dX4_requirePoint_18 dX4_requirePoint_21 htab (Nat.le_of_ble_eq_true rfl) (Nat.le_of_ble_eq_true rfl) (Nat.le_of_ble_eq_true rfl) (Nat.le_of_ble_eq_true rfl) hlocks (by simp only [exIn, xo, if_neg c_1, if_neg c_9]) rfl (Nat.le_of_ble_eq_true rfl) (Nat.le_of_ble_eq_true rfl)

theorem wiX4_requireWish_reqWish_X3 : ∀ w ∈ wsX30, w ∈ wsX4_requireWish := by decide +kernel
theorem wiX4_requireWish_reqWish_X4 : ∀ w ∈ wsX40, w ∈ wsX4_requireWish := by decide +kernel
theorem wmX4_requireWish_reqWish_0 : Cond.classLink RX4 168 "java/lang/IndexOutOfBoundsException" ∈ wsX4_requireWish := by decide +kernel
theorem wmX4_requireWish_reqWish_1 : Cond.initialized "java/lang/IndexOutOfBoundsException" ∈ wsX4_requireWish := by decide +kernel
theorem wmX4_requireWish_reqWish_2 : Cond.fieldLink RX4 22 "PartSketch" "rows" "LPartSketch$WishRows;" ∈ wsX4_requireWish := by decide +kernel
theorem wmX4_requireWish_reqWish_3 : Cond.fieldLink RX4 62 "PartSketch$WishRows" "count" "I" ∈ wsX4_requireWish := by decide +kernel
theorem wxX4_requireWish_reqWish_B : ∀ w ∈ (vx_atS RX4 172 "java/lang/IndexOutOfBoundsException" ["java/lang/RuntimeException", "java/lang/Exception"]).filter goodWord, w ∈ wsX4_requireWish := by
  intro w h
  simp only [wsX4_requireWish, List.mem_cons, List.mem_append, h, or_true, true_or]
set_option maxHeartbeats 4000000 in
set_option maxRecDepth 100000 in
/-- requireWish -/
theorem c_reqWish (l : Launch) (G : gT) (hst : l.stackTraces = false) (X : Nat → Nat) (r : aRw) (rs : tRw) (so : tOb) (o : Nat) (x : aAx) (y : aAx) (b : aBd) (i : Int32) (sz : Nat) : XV l yX4_requireWish wsX4_requireWish ({ frames := 6, cells := 1, slots := 6, locals := 90 }) G X [.ref o, .int i] (wRw G r rs ++ (wOb G (o, x.1, y.1, r.1, b.1) so)) (wRw G r rs ++ (wOb G (o, x.1, y.1, r.1, b.1) so)) sz (exIn rs.1 i) 1 6 := by
  refine x_of (Qc := fun A9 => (va_Qv (fun (_ : Unit) => (exIn rs.1 i) = none) (fun _ t9 => wPost G A9 (wRw G r rs ++ (wOb G (o, x.1, y.1, r.1, b.1) so)) t9) A9)) (XC := fun A9 => (xC G A9 (wRw G r rs ++ (wOb G (o, x.1, y.1, r.1, b.1) so)) (exIn rs.1 i))) (cc := cX4_requireWish) (maxL := 2) (ret := none) (by decide) rfl (Nat.le_of_ble_eq_true rfl) ?_
  intro p9 e9 s9 m9 A9 be9 mt9 c9 H locs ls hx hb hr hts hown hlocks hin hml htab hK hA hF hw hl
  have hl : lv_has ls 2 [(0, .ref o), (1, .int i)] := hl
  refine lv_iload_n hx hb dX4_requireWish_0 rfl (lv_at hl 1 rfl) ?_
  refine lv_if_lt (tgt := 15) hx hb dX4_requireWish_1 (by decide) (fun c_1 => ?_) (fun c_1 => ?_)
  · exact x_throw (text := "there is no such wish") hx hb hst hown (by decide +kernel) (hts _ wmX4_requireWish_reqWish_0) (hts _ wmX4_requireWish_reqWish_1) (by decide +kernel) (fun w h => hts w (wxX4_requireWish_reqWish_B w h)) xbB xgB hF hK hw (hl.1.trans hml.symm) dX4_requireWish_15 dX4_requireWish_18 dX4_requireWish_19 dX4_requireWish_21 dX4_requireWish_24 htab (Nat.le_of_ble_eq_true rfl) (Nat.le_of_ble_eq_true rfl) (Nat.le_of_ble_eq_true rfl) (Nat.le_of_ble_eq_true rfl) hlocks (by simp only [exIn, xo, if_pos c_1]) rfl (Nat.le_of_ble_eq_true rfl) (Nat.le_of_ble_eq_true rfl)
  · refine lv_iload_n hx hb dX4_requireWish_4 rfl (lv_at hl 1 rfl) ?_
    refine lv_aload_n hx hb dX4_requireWish_5 rfl (lv_at hl 0 rfl) ?_
    refine r_get (ci := 4) (v := .ref r.1) (C := RX4) (T := TX4) (N := 6) hx hb hts wiX4_requireWish_reqWish_X4 hown hK hw 11 rfl rfl 2 (by decide) wmX4_requireWish_reqWish_2 (fun _ h9 => h9) rfl dX4_requireWish_6 ?_
    refine r_get (ci := 3) (v := .int (nI rs.1)) (C := RX3) (T := TX3) (N := 7) hx hb hts wiX4_requireWish_reqWish_X3 hown hK hw 0 rfl rfl 0 (by decide) wmX4_requireWish_reqWish_3 (fun _ h9 => h9) rfl dX4_requireWish_9 ?_
    refine lv_icmp_lt (tgt := 25) hx hb dX4_requireWish_12 (by decide) (fun c_12 => ?_) (fun c_12 => ?_)
    · exact x_vret hx hb hr hlocks hK hw (Nat.le_of_ble_eq_true rfl) (Nat.le_of_ble_eq_true rfl) dX4_requireWish_25 (by simp only [exIn, xo, if_neg c_1, if_pos c_12]) rfl
    · exact x_throw (text := "there is no such wish") hx hb hst hown (by decide +kernel) (hts _ wmX4_requireWish_reqWish_0) (hts _ wmX4_requireWish_reqWish_1) (by decide +kernel) (fun w h => hts w (wxX4_requireWish_reqWish_B w h)) xbB xgB hF hK hw (hl.1.trans hml.symm) dX4_requireWish_15 dX4_requireWish_18 dX4_requireWish_19 dX4_requireWish_21 dX4_requireWish_24 htab (Nat.le_of_ble_eq_true rfl) (Nat.le_of_ble_eq_true rfl) (Nat.le_of_ble_eq_true rfl) (Nat.le_of_ble_eq_true rfl) hlocks (by simp only [exIn, xo, if_neg c_1, if_neg c_12]) rfl (Nat.le_of_ble_eq_true rfl) (Nat.le_of_ble_eq_true rfl)

theorem wiX4_requireSized_reqSized_X3 : ∀ w ∈ wsX30, w ∈ wsX4_requireSized := by decide +kernel
theorem wiX4_requireSized_reqSized_X4 : ∀ w ∈ wsX40, w ∈ wsX4_requireSized := by decide +kernel
theorem wmX4_requireSized_reqSized_0 : Cond.fieldLink RX4 22 "PartSketch" "rows" "LPartSketch$WishRows;" ∈ wsX4_requireSized := by decide +kernel
theorem wmX4_requireSized_reqSized_1 : Cond.fieldLink RX4 175 "PartSketch$WishRows" "kind" "[I" ∈ wsX4_requireSized := by decide +kernel
theorem wmX4_requireSized_reqSized_2 : Cond.classLink RX4 41 "java/lang/IllegalStateException" ∈ wsX4_requireSized := by decide +kernel
theorem wmX4_requireSized_reqSized_3 : Cond.initialized "java/lang/IllegalStateException" ∈ wsX4_requireSized := by decide +kernel
theorem wxX4_requireSized_reqSized_S : ∀ w ∈ (vx_atS RX4 45 "java/lang/IllegalStateException" ["java/lang/RuntimeException", "java/lang/Exception"]).filter goodWord, w ∈ wsX4_requireSized := by
  intro w h
  simp only [wsX4_requireSized, List.mem_cons, List.mem_append, h, or_true, true_or]
set_option maxHeartbeats 4000000 in
set_option maxRecDepth 100000 in
/-- requireSized -/
theorem c_reqSized (l : Launch) (G : gT) (hst : l.stackTraces = false) (X : Nat → Nat) (r : aRw) (rs : tRw) (so : tOb) (o : Nat) (x : aAx) (y : aAx) (b : aBd) (w : Nat) (hw40 : w < 40) (sz : Nat) : XV l yX4_requireSized wsX4_requireSized ({ frames := 6, cells := 1, slots := 6, locals := 90 }) G X [.ref o, .int (nI w)] (wRw G r rs ++ (wOb G (o, x.1, y.1, r.1, b.1) so)) (wRw G r rs ++ (wOb G (o, x.1, y.1, r.1, b.1) so)) sz (exSized (rs.2.1 w)) 1 6 := by
  refine x_of (Qc := fun A9 => (va_Qv (fun (_ : Unit) => (exSized (rs.2.1 w)) = none) (fun _ t9 => wPost G A9 (wRw G r rs ++ (wOb G (o, x.1, y.1, r.1, b.1) so)) t9) A9)) (XC := fun A9 => (xC G A9 (wRw G r rs ++ (wOb G (o, x.1, y.1, r.1, b.1) so)) (exSized (rs.2.1 w)))) (cc := cX4_requireSized) (maxL := 2) (ret := none) (by decide) rfl (Nat.le_of_ble_eq_true rfl) ?_
  intro p9 e9 s9 m9 A9 be9 mt9 c9 H locs ls hx hb hr hts hown hlocks hin hml htab hK hA hF hw hl
  have hl : lv_has ls 2 [(0, .ref o), (1, .int (nI w))] := hl
  refine lv_aload_n hx hb dX4_requireSized_0 rfl (lv_at hl 0 rfl) ?_
  refine r_get (ci := 4) (v := .ref r.1) (C := RX4) (T := TX4) (N := 6) hx hb hts wiX4_requireSized_reqSized_X4 hown hK hw 11 rfl rfl 2 (by decide) wmX4_requireSized_reqSized_0 (fun _ h9 => h9) rfl dX4_requireSized_1 ?_
  refine r_get (ci := 3) (v := .ref r.2.1) (C := RX3) (T := TX3) (N := 7) hx hb hts wiX4_requireSized_reqSized_X3 hown hK hw 0 rfl rfl 1 (by decide) wmX4_requireSized_reqSized_1 (fun _ h9 => h9) rfl dX4_requireSized_4 ?_
  refine lv_iload_n hx hb dX4_requireSized_7 rfl (lv_at hl 1 rfl) ?_
  refine r_iald (v := rs.2.1 w) hx hb hK hw 1 rfl w rfl (by omega) (by decide) rfl dX4_requireSized_8 ?_
  refine lv_iconst (v := 2) hx hb dX4_requireSized_9 (by decide) ?_
  refine lv_icmp_ne (tgt := 23) hx hb dX4_requireSized_10 (by decide) (fun c_10 => ?_) (fun c_10 => ?_)
  · exact x_vret hx hb hr hlocks hK hw (Nat.le_of_ble_eq_true rfl) (Nat.le_of_ble_eq_true rfl) dX4_requireSized_23 (by simp only [exSized, xo, if_neg c_10]) rfl
  · exact x_throw (text := "a wish of the kind 2 has no size") hx hb hst hown (by decide +kernel) (hts _ wmX4_requireSized_reqSized_2) (hts _ wmX4_requireSized_reqSized_3) (by decide +kernel) (fun w h => hts w (wxX4_requireSized_reqSized_S w h)) xbS xgS hF hK hw (hl.1.trans hml.symm) dX4_requireSized_13 dX4_requireSized_16 dX4_requireSized_17 dX4_requireSized_19 dX4_requireSized_22 htab (Nat.le_of_ble_eq_true rfl) (Nat.le_of_ble_eq_true rfl) (Nat.le_of_ble_eq_true rfl) (Nat.le_of_ble_eq_true rfl) hlocks (by simp only [exSized, xo, if_pos c_10]) rfl (Nat.le_of_ble_eq_true rfl) (Nat.le_of_ble_eq_true rfl)

theorem wiX4_requirePocket_reqPocket_X2 : ∀ w ∈ wsX20, w ∈ wsX4_requirePocket := by decide +kernel
theorem wiX4_requirePocket_reqPocket_X4 : ∀ w ∈ wsX40, w ∈ wsX4_requirePocket := by decide +kernel
theorem wmX4_requirePocket_reqPocket_0 : Cond.classLink RX4 168 "java/lang/IndexOutOfBoundsException" ∈ wsX4_requirePocket := by decide +kernel
theorem wmX4_requirePocket_reqPocket_1 : Cond.initialized "java/lang/IndexOutOfBoundsException" ∈ wsX4_requirePocket := by decide +kernel
theorem wmX4_requirePocket_reqPocket_2 : Cond.fieldLink RX4 29 "PartSketch" "body" "LPartSketch$Body;" ∈ wsX4_requirePocket := by decide +kernel
theorem wmX4_requirePocket_reqPocket_3 : Cond.fieldLink RX4 140 "PartSketch$Body" "pockets" "I" ∈ wsX4_requirePocket := by decide +kernel
theorem wxX4_requirePocket_reqPocket_B : ∀ w ∈ (vx_atS RX4 172 "java/lang/IndexOutOfBoundsException" ["java/lang/RuntimeException", "java/lang/Exception"]).filter goodWord, w ∈ wsX4_requirePocket := by
  intro w h
  simp only [wsX4_requirePocket, List.mem_cons, List.mem_append, h, or_true, true_or]
set_option maxHeartbeats 4000000 in
set_option maxRecDepth 100000 in
/-- requirePocket -/
theorem c_reqPocket (l : Launch) (G : gT) (hst : l.stackTraces = false) (X : Nat → Nat) (r : aRw) (rs : tRw) (so : tOb) (x : aAx) (tx : tAx) (y : aAx) (ty : tAx) (b : aBd) (bs : tBd) (o : Nat) (i : Int32) (sz : Nat) : XV l yX4_requirePocket wsX4_requirePocket ({ frames := 6, cells := 1, slots := 6, locals := 90 }) G X [.ref o, .int i] (wRw G r rs ++ (wOb G (o, x.1, y.1, r.1, b.1) so ++ (wAx G x tx ++ (wAx G y ty ++ (wBd G b bs))))) (wRw G r rs ++ (wOb G (o, x.1, y.1, r.1, b.1) so ++ (wAx G x tx ++ (wAx G y ty ++ (wBd G b bs))))) sz (exIn bs.2.1 i) 1 6 := by
  refine x_of (Qc := fun A9 => (va_Qv (fun (_ : Unit) => (exIn bs.2.1 i) = none) (fun _ t9 => wPost G A9 (wRw G r rs ++ (wOb G (o, x.1, y.1, r.1, b.1) so ++ (wAx G x tx ++ (wAx G y ty ++ (wBd G b bs))))) t9) A9)) (XC := fun A9 => (xC G A9 (wRw G r rs ++ (wOb G (o, x.1, y.1, r.1, b.1) so ++ (wAx G x tx ++ (wAx G y ty ++ (wBd G b bs))))) (exIn bs.2.1 i))) (cc := cX4_requirePocket) (maxL := 2) (ret := none) (by decide) rfl (Nat.le_of_ble_eq_true rfl) ?_
  intro p9 e9 s9 m9 A9 be9 mt9 c9 H locs ls hx hb hr hts hown hlocks hin hml htab hK hA hF hw hl
  have hl : lv_has ls 2 [(0, .ref o), (1, .int i)] := hl
  refine lv_iload_n hx hb dX4_requirePocket_0 rfl (lv_at hl 1 rfl) ?_
  refine lv_if_lt (tgt := 15) hx hb dX4_requirePocket_1 (by decide) (fun c_1 => ?_) (fun c_1 => ?_)
  · exact x_throw (text := "there is no such pocket") hx hb hst hown (by decide +kernel) (hts _ wmX4_requirePocket_reqPocket_0) (hts _ wmX4_requirePocket_reqPocket_1) (by decide +kernel) (fun w h => hts w (wxX4_requirePocket_reqPocket_B w h)) xbB xgB hF hK hw (hl.1.trans hml.symm) dX4_requirePocket_15 dX4_requirePocket_18 dX4_requirePocket_19 dX4_requirePocket_21 dX4_requirePocket_24 htab (Nat.le_of_ble_eq_true rfl) (Nat.le_of_ble_eq_true rfl) (Nat.le_of_ble_eq_true rfl) (Nat.le_of_ble_eq_true rfl) hlocks (by simp only [exIn, xo, if_pos c_1]) rfl (Nat.le_of_ble_eq_true rfl) (Nat.le_of_ble_eq_true rfl)
  · refine lv_iload_n hx hb dX4_requirePocket_4 rfl (lv_at hl 1 rfl) ?_
    refine lv_aload_n hx hb dX4_requirePocket_5 rfl (lv_at hl 0 rfl) ?_
    refine r_get (ci := 4) (v := .ref b.1) (C := RX4) (T := TX4) (N := 6) hx hb hts wiX4_requirePocket_reqPocket_X4 hown hK hw 11 rfl rfl 3 (by decide) wmX4_requirePocket_reqPocket_2 (fun _ h9 => h9) rfl dX4_requirePocket_6 ?_
    refine r_get (ci := 2) (v := .int (nI bs.2.1)) (C := RX2) (T := TX2) (N := 5) hx hb hts wiX4_requirePocket_reqPocket_X2 hown hK hw 20 rfl rfl 1 (by decide) wmX4_requirePocket_reqPocket_3 (fun _ h9 => h9) rfl dX4_requirePocket_9 ?_
    refine lv_icmp_lt (tgt := 25) hx hb dX4_requirePocket_12 (by decide) (fun c_12 => ?_) (fun c_12 => ?_)
    · exact x_vret hx hb hr hlocks hK hw (Nat.le_of_ble_eq_true rfl) (Nat.le_of_ble_eq_true rfl) dX4_requirePocket_25 (by simp only [exIn, xo, if_neg c_1, if_pos c_12]) rfl
    · exact x_throw (text := "there is no such pocket") hx hb hst hown (by decide +kernel) (hts _ wmX4_requirePocket_reqPocket_0) (hts _ wmX4_requirePocket_reqPocket_1) (by decide +kernel) (fun w h => hts w (wxX4_requirePocket_reqPocket_B w h)) xbB xgB hF hK hw (hl.1.trans hml.symm) dX4_requirePocket_15 dX4_requirePocket_18 dX4_requirePocket_19 dX4_requirePocket_21 dX4_requirePocket_24 htab (Nat.le_of_ble_eq_true rfl) (Nat.le_of_ble_eq_true rfl) (Nat.le_of_ble_eq_true rfl) (Nat.le_of_ble_eq_true rfl) hlocks (by simp only [exIn, xo, if_neg c_1, if_neg c_12]) rfl (Nat.le_of_ble_eq_true rfl) (Nat.le_of_ble_eq_true rfl)
