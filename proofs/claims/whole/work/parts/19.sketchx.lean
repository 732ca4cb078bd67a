/-! PartSketch: which calls throw what, and what the others do -/
def exReach (u : Int32) : Option String := if u < -100 then some "java/lang/IllegalArgumentException" else if u ≤ 100 then none else some "java/lang/IllegalArgumentException"
def exDepth (u : Int32) : Option String := if u < 1 then some "java/lang/IllegalArgumentException" else if u ≤ 50 then none else some "java/lang/IllegalArgumentException"
def exVar (u : Int32) : Option String := if u < 0 then some "java/lang/IllegalArgumentException" else if u < 4 then none else some "java/lang/IllegalArgumentException"
def exIn (n : Nat) (i : Int32) : Option String := if i < 0 then some "java/lang/IndexOutOfBoundsException" else if i < nI n then none else some "java/lang/IndexOutOfBoundsException"
def exSized (k : Int32) : Option String := if k = 2 then some "java/lang/IllegalStateException" else none
theorem x_lt {a b : Nat} (ha : a < 2 ^ 31) (hb : b < 2 ^ 31) (h : nI a < nI b) : a < b := Nat.not_le.mp fun h9 => absurd ((nI_leI hb ha).mpr h9) (Int32.not_le.mpr h)
theorem exIn_lt {n : Nat} {i : Int32} (hn : n < 2 ^ 31) (h : exIn n i = none) : iN i < n := by
  unfold exIn at h
  by_cases h0 : i < 0
  · rw [if_pos h0] at h; exact absurd h (by simp)
  · by_cases h1 : i < nI n
    · have p0 : 0 ≤ i.toInt := by
        rw [Int32.lt_iff_toInt_lt] at h0
        have : (0 : Int32).toInt = 0 := by decide
        omega
      rw [Int32.lt_iff_toInt_lt, nI_toInt hn] at h1
      have e : i.toInt = ((iN i : Nat) : Int) := by
        show i.toBitVec.toInt = _
        have p1 : 0 ≤ i.toBitVec.toInt := p0
        rw [BitVec.toInt_eq_toNat_cond] at p1 ⊢
        show _ = (i.toBitVec.toNat : Int)
        split
        · rfl
        · rename_i hge
          rw [if_neg hge] at p1
          have := i.toBitVec.isLt
          omega
      omega
    · rw [if_neg h0, if_neg h1] at h; exact absurd h (by simp)
theorem exVar_lt {v : Int32} (h : exVar v = none) : iN v < 4 := exIn_lt (n := 4) (i := v) (by decide) (by
  unfold exVar at h
  unfold exIn
  by_cases h0 : v < 0
  · rw [if_pos h0] at h; exact absurd h (by simp)
  · rw [if_neg h0] at h ⊢
    by_cases h1 : v < 4
    · rw [if_pos (show v < nI 4 from h1)]
    · rw [if_neg h1] at h; exact absurd h (by simp))
def exPoint (n : Nat) (u v : Int32) : Option String := xo (exReach u) (xo (exReach v) (if nI n < 16 then none else some "java/lang/IllegalStateException"))
def exHint (n : Nat) (i u v : Int32) : Option String := xo (exIn n i) (xo (exReach u) (exReach v))
def exWish (n c : Nat) (k i j d : Int32) : Option String := if k < 0 then some "java/lang/IllegalArgumentException" else if k ≤ 2 then (if k = 2 then xo (exIn n i) (if nI c < 40 then none else some "java/lang/IllegalStateException") else xo (exReach d) (if i = j then some "java/lang/IllegalArgumentException" else xo (exIn n i) (xo (exIn n j) (if nI c < 40 then none else some "java/lang/IllegalStateException")))) else some "java/lang/IllegalArgumentException"
def exType (c : Nat) (k : Nat → Int32) (w d : Int32) : Option String := xo (exIn c w) (xo (exSized (k (iN w))) (exReach d))
def exTell (c : Nat) (k : Nat → Int32) (v w d : Int32) : Option String := xo (exVar v) (xo (exReach d) (xo (exIn c w) (exSized (k (iN w)))))
def exBase (n : Nat) (i j h : Int32) : Option String := xo (exIn n i) (xo (exIn n j) (exDepth h))
def exPock (n q : Nat) (f i j d t : Int32) : Option String := xo (exIn n i) (xo (exIn n j) (xo (if t = -1 then none else exIn q t) (xo (exDepth d) (if f = 0 then some "java/lang/IllegalStateException" else if nI q < 8 then none else some "java/lang/IllegalStateException"))))
def rwWish (r : tRw) (k i j d : Int32) : tRw := if k = 2 then rwApp r k (iN i) (iN i) 0 else rwApp r k (iN i) (iN j) d
def rwSt (r : tRw) (f : Nat → Int32) : tRw := (r.1, r.2.1, r.2.2.1, r.2.2.2.1, r.2.2.2.2.1, f, r.2.2.2.2.2.2)
def skBase (b : tBd) (i j : Nat) (h : Int32) : tBd := (1, b.2.1, b.2.2.1, b.2.2.2.1, (updB b.2.2.2.2 0 (i, j, h, none, (b.2.2.2.2 0).2.2.2.2.1, (b.2.2.2.2 0).2.2.2.2.2.1, (b.2.2.2.2 0).2.2.2.2.2.2.1, (b.2.2.2.2 0).2.2.2.2.2.2.2.1, (b.2.2.2.2 0).2.2.2.2.2.2.2.2.1, (b.2.2.2.2 0).2.2.2.2.2.2.2.2.2)))
def skPock (b : tBd) (i j : Nat) (d t : Int32) : tBd := (b.1, b.2.1 + 1, b.2.2.1, b.2.2.2.1, (updB b.2.2.2.2 (1 + b.2.1) (i, j, d, some (iN (1 + t)), (b.2.2.2.2 (1 + b.2.1)).2.2.2.2.1, (b.2.2.2.2 (1 + b.2.1)).2.2.2.2.2.1, (b.2.2.2.2 (1 + b.2.1)).2.2.2.2.2.2.1, (b.2.2.2.2 (1 + b.2.1)).2.2.2.2.2.2.2.1, (b.2.2.2.2 (1 + b.2.1)).2.2.2.2.2.2.2.2.1, (b.2.2.2.2 (1 + b.2.1)).2.2.2.2.2.2.2.2.2)))

theorem wmX4_requireReach_reqReach_0 : Cond.classLink RX4 55 "java/lang/IllegalArgumentException" ∈ wsX4_requireReach := by decide +kernel
theorem wmX4_requireReach_reqReach_1 : Cond.initialized "java/lang/IllegalArgumentException" ∈ wsX4_requireReach := by decide +kernel
theorem wxX4_requireReach_reqReach_A : ∀ w ∈ (vx_atS RX4 59 "java/lang/IllegalArgumentException" ["java/lang/RuntimeException", "java/lang/Exception"]).filter goodWord, w ∈ wsX4_requireReach := by
  intro w h
  simp only [wsX4_requireReach, List.mem_cons, List.mem_append, h, or_true, true_or]
set_option maxHeartbeats 4000000 in
set_option maxRecDepth 100000 in
/-- X4_requireReach -/
theorem c_reqReach (l : Launch) (G : gT) (hst : l.stackTraces = false) (X : Nat → Nat) (u : Int32) (sz : Nat) : XV l yX4_requireReach wsX4_requireReach ({ frames := 6, cells := 1, slots := 6, locals := 90 }) G X [.int u] ([] : va_W) ([] : va_W) sz (exReach u) 1 6 := by
  refine x_of (Qc := fun A9 => (va_Qv (fun (_ : Unit) => (exReach u) = none) (fun _ t9 => wPost G A9 ([] : va_W) t9) A9)) (XC := fun A9 => (xC G A9 ([] : va_W) (exReach u))) (cc := cX4_requireReach) (maxL := 1) (ret := none) (by decide) rfl (Nat.le_of_ble_eq_true rfl) ?_
  intro p9 e9 s9 m9 A9 be9 mt9 c9 H locs ls hx hb hr hts hown hlocks hin hml htab hK hA hF hw hl
  have hl : lv_has ls 1 [(0, .int u)] := hl
  refine lv_iload_n hx hb dX4_requireReach_0 rfl (lv_at hl 0 rfl) ?_
  refine lv_bipush (v := (-100)) hx hb dX4_requireReach_1 (by decide) ?_
  refine lv_icmp_lt (tgt := 12) hx hb dX4_requireReach_3 (by decide) (fun c_3 => ?_) (fun c_3 => ?_)
  · exact x_throw (text := "a number is not from -100 to 100") hx hb hst hown (by decide +kernel) (hts _ wmX4_requireReach_reqReach_0) (hts _ wmX4_requireReach_reqReach_1) (by decide +kernel) (fun w h => hts w (wxX4_requireReach_reqReach_A w h)) xbA xgA hF hK hw (hl.1.trans hml.symm) dX4_requireReach_12 dX4_requireReach_15 dX4_requireReach_16 dX4_requireReach_18 dX4_requireReach_21 htab (Nat.le_of_ble_eq_true rfl) (Nat.le_of_ble_eq_true rfl) (Nat.le_of_ble_eq_true rfl) (Nat.le_of_ble_eq_true rfl) hlocks (by simp only [exReach, xo, if_pos c_3]) rfl (Nat.le_of_ble_eq_true rfl) (Nat.le_of_ble_eq_true rfl)
  · refine lv_iload_n hx hb dX4_requireReach_6 rfl (lv_at hl 0 rfl) ?_
    refine lv_bipush (v := 100) hx hb dX4_requireReach_7 (by decide) ?_
    refine lv_icmp_le (tgt := 22) hx hb dX4_requireReach_9 (by decide) (fun c_9 => ?_) (fun c_9 => ?_)
    · exact x_vret hx hb hr hlocks hK hw (Nat.le_of_ble_eq_true rfl) (Nat.le_of_ble_eq_true rfl) dX4_requireReach_22 (by simp only [exReach, xo, if_neg c_3, if_pos c_9]) rfl
    · exact x_throw (text := "a number is not from -100 to 100") hx hb hst hown (by decide +kernel) (hts _ wmX4_requireReach_reqReach_0) (hts _ wmX4_requireReach_reqReach_1) (by decide +kernel) (fun w h => hts w (wxX4_requireReach_reqReach_A w h)) xbA xgA hF hK hw (hl.1.trans hml.symm) dX4_requireReach_12 dX4_requireReach_15 dX4_requireReach_16 dX4_requireReach_18 dX4_requireReach_21 htab (Nat.le_of_ble_eq_true rfl) (Nat.le_of_ble_eq_true rfl) (Nat.le_of_ble_eq_true rfl) (Nat.le_of_ble_eq_true rfl) hlocks (by simp only [exReach, xo, if_neg c_3, if_neg c_9]) rfl (Nat.le_of_ble_eq_true rfl) (Nat.le_of_ble_eq_true rfl)

theorem wmX4_requireDepth_reqDepth_0 : Cond.classLink RX4 55 "java/lang/IllegalArgumentException" ∈ wsX4_requireDepth := by decide +kernel
theorem wmX4_requireDepth_reqDepth_1 : Cond.initialized "java/lang/IllegalArgumentException" ∈ wsX4_requireDepth := by decide +kernel
theorem wxX4_requireDepth_reqDepth_A : ∀ w ∈ (vx_atS RX4 59 "java/lang/IllegalArgumentException" ["java/lang/RuntimeException", "java/lang/Exception"]).filter goodWord, w ∈ wsX4_requireDepth := by
  intro w h
  simp only [wsX4_requireDepth, List.mem_cons, List.mem_append, h, or_true, true_or]
set_option maxHeartbeats 4000000 in
set_option maxRecDepth 100000 in
/-- X4_requireDepth -/
theorem c_reqDepth (l : Launch) (G : gT) (hst : l.stackTraces = false) (X : Nat → Nat) (u : Int32) (sz : Nat) : XV l yX4_requireDepth wsX4_requireDepth ({ frames := 6, cells := 1, slots := 6, locals := 90 }) G X [.int u] ([] : va_W) ([] : va_W) sz (exDepth u) 1 6 := by
  refine x_of (Qc := fun A9 => (va_Qv (fun (_ : Unit) => (exDepth u) = none) (fun _ t9 => wPost G A9 ([] : va_W) t9) A9)) (XC := fun A9 => (xC G A9 ([] : va_W) (exDepth u))) (cc := cX4_requireDepth) (maxL := 1) (ret := none) (by decide) rfl (Nat.le_of_ble_eq_true rfl) ?_
  intro p9 e9 s9 m9 A9 be9 mt9 c9 H locs ls hx hb hr hts hown hlocks hin hml htab hK hA hF hw hl
  have hl : lv_has ls 1 [(0, .int u)] := hl
  refine lv_iload_n hx hb dX4_requireDepth_0 rfl (lv_at hl 0 rfl) ?_
  refine lv_iconst (v := 1) hx hb dX4_requireDepth_1 (by decide) ?_
  refine lv_icmp_lt (tgt := 11) hx hb dX4_requireDepth_2 (by decide) (fun c_2 => ?_) (fun c_2 => ?_)
  · exact x_throw (text := "a height or depth is not from 1 to 50") hx hb hst hown (by decide +kernel) (hts _ wmX4_requireDepth_reqDepth_0) (hts _ wmX4_requireDepth_reqDepth_1) (by decide +kernel) (fun w h => hts w (wxX4_requireDepth_reqDepth_A w h)) xbA xgA hF hK hw (hl.1.trans hml.symm) dX4_requireDepth_11 dX4_requireDepth_14 dX4_requireDepth_15 dX4_requireDepth_17 dX4_requireDepth_20 htab (Nat.le_of_ble_eq_true rfl) (Nat.le_of_ble_eq_true rfl) (Nat.le_of_ble_eq_true rfl) (Nat.le_of_ble_eq_true rfl) hlocks (by simp only [exDepth, xo, if_pos c_2]) rfl (Nat.le_of_ble_eq_true rfl) (Nat.le_of_ble_eq_true rfl)
  · refine lv_iload_n hx hb dX4_requireDepth_5 rfl (lv_at hl 0 rfl) ?_
    refine lv_bipush (v := 50) hx hb dX4_requireDepth_6 (by decide) ?_
    refine lv_icmp_le (tgt := 21) hx hb dX4_requireDepth_8 (by decide) (fun c_8 => ?_) (fun c_8 => ?_)
    · exact x_vret hx hb hr hlocks hK hw (Nat.le_of_ble_eq_true rfl) (Nat.le_of_ble_eq_true rfl) dX4_requireDepth_21 (by simp only [exDepth, xo, if_neg c_2, if_pos c_8]) rfl
    · exact x_throw (text := "a height or depth is not from 1 to 50") hx hb hst hown (by decide +kernel) (hts _ wmX4_requireDepth_reqDepth_0) (hts _ wmX4_requireDepth_reqDepth_1) (by decide +kernel) (fun w h => hts w (wxX4_requireDepth_reqDepth_A w h)) xbA xgA hF hK hw (hl.1.trans hml.symm) dX4_requireDepth_11 dX4_requireDepth_14 dX4_requireDepth_15 dX4_requireDepth_17 dX4_requireDepth_20 htab (Nat.le_of_ble_eq_true rfl) (Nat.le_of_ble_eq_true rfl) (Nat.le_of_ble_eq_true rfl) (Nat.le_of_ble_eq_true rfl) hlocks (by simp only [exDepth, xo, if_neg c_2, if_neg c_8]) rfl (Nat.le_of_ble_eq_true rfl) (Nat.le_of_ble_eq_true rfl)

theorem wmX4_requireVariant_reqVar_0 : Cond.classLink RX4 55 "java/lang/IllegalArgumentException" ∈ wsX4_requireVariant := by decide +kernel
theorem wmX4_requireVariant_reqVar_1 : Cond.initialized "java/lang/IllegalArgumentException" ∈ wsX4_requireVariant := by decide +kernel
theorem wxX4_requireVariant_reqVar_A : ∀ w ∈ (vx_atS RX4 59 "java/lang/IllegalArgumentException" ["java/lang/RuntimeException", "java/lang/Exception"]).filter goodWord, w ∈ wsX4_requireVariant := by
  intro w h
  simp only [wsX4_requireVariant, List.mem_cons, List.mem_append, h, or_true, true_or]
set_option maxHeartbeats 4000000 in
set_option maxRecDepth 100000 in
/-- X4_requireVariant -/
theorem c_reqVar (l : Launch) (G : gT) (hst : l.stackTraces = false) (X : Nat → Nat) (u : Int32) (sz : Nat) : XV l yX4_requireVariant wsX4_requireVariant ({ frames := 6, cells := 1, slots := 6, locals := 90 }) G X [.int u] ([] : va_W) ([] : va_W) sz (exVar u) 1 6 := by
  refine x_of (Qc := fun A9 => (va_Qv (fun (_ : Unit) => (exVar u) = none) (fun _ t9 => wPost G A9 ([] : va_W) t9) A9)) (XC := fun A9 => (xC G A9 ([] : va_W) (exVar u))) (cc := cX4_requireVariant) (maxL := 1) (ret := none) (by decide) rfl (Nat.le_of_ble_eq_true rfl) ?_
  intro p9 e9 s9 m9 A9 be9 mt9 c9 H locs ls hx hb hr hts hown hlocks hin hml htab hK hA hF hw hl
  have hl : lv_has ls 1 [(0, .int u)] := hl
  refine lv_iload_n hx hb dX4_requireVariant_0 rfl (lv_at hl 0 rfl) ?_
  refine lv_if_lt (tgt := 9) hx hb dX4_requireVariant_1 (by decide) (fun c_1 => ?_) (fun c_1 => ?_)
  · exact x_throw (text := "the variant is not from 0 to 3") hx hb hst hown (by decide +kernel) (hts _ wmX4_requireVariant_reqVar_0) (hts _ wmX4_requireVariant_reqVar_1) (by decide +kernel) (fun w h => hts w (wxX4_requireVariant_reqVar_A w h)) xbA xgA hF hK hw (hl.1.trans hml.symm) dX4_requireVariant_9 dX4_requireVariant_12 dX4_requireVariant_13 dX4_requireVariant_15 dX4_requireVariant_18 htab (Nat.le_of_ble_eq_true rfl) (Nat.le_of_ble_eq_true rfl) (Nat.le_of_ble_eq_true rfl) (Nat.le_of_ble_eq_true rfl) hlocks (by simp only [exVar, xo, if_pos c_1]) rfl (Nat.le_of_ble_eq_true rfl) (Nat.le_of_ble_eq_true rfl)
  · refine lv_iload_n hx hb dX4_requireVariant_4 rfl (lv_at hl 0 rfl) ?_
    refine lv_iconst (v := 4) hx hb dX4_requireVariant_5 (by decide) ?_
    refine lv_icmp_lt (tgt := 19) hx hb dX4_requireVariant_6 (by decide) (fun c_6 => ?_) (fun c_6 => ?_)
    · exact x_vret hx hb hr hlocks hK hw (Nat.le_of_ble_eq_true rfl) (Nat.le_of_ble_eq_true rfl) dX4_requireVariant_19 (by simp only [exVar, xo, if_neg c_1, if_pos c_6]) rfl
    · exact x_throw (text := "the variant is not from 0 to 3") hx hb hst hown (by decide +kernel) (hts _ wmX4_requireVariant_reqVar_0) (hts _ wmX4_requireVariant_reqVar_1) (by decide +kernel) (fun w h => hts w (wxX4_requireVariant_reqVar_A w h)) xbA xgA hF hK hw (hl.1.trans hml.symm) dX4_requireVariant_9 dX4_requireVariant_12 dX4_requireVariant_13 dX4_requireVariant_15 dX4_requireVariant_18 htab (Nat.le_of_ble_eq_true rfl) (Nat.le_of_ble_eq_true rfl) (Nat.le_of_ble_eq_true rfl) (Nat.le_of_ble_eq_true rfl) hlocks (by simp only [exVar, xo, if_neg c_1, if_neg c_6]) rfl (Nat.le_of_ble_eq_true rfl) (Nat.le_of_ble_eq_true rfl)

theorem wiX4_requirePoint_reqPoint_X4 : ∀ w ∈ wsX40, w ∈ wsX4_requirePoint := by decide +kernel
theorem wmX4_requirePoint_reqPoint_0 : Cond.classLink RX4 168 "java/lang/IndexOutOfBoundsException" ∈ wsX4_requirePoint := by decide +kernel
theorem wmX4_requirePoint_reqPoint_1 : Cond.initialized "java/lang/IndexOutOfBoundsException" ∈ wsX4_requirePoint := by decide +kernel
theorem wmX4_requirePoint_reqPoint_2 : Cond.fieldLink RX4 37 "PartSketch" "points" "I" ∈ wsX4_requirePoint := by decide +kernel
theorem wxX4_requirePoint_reqPoint_B : ∀ w ∈ (vx_atS RX4 172 "java/lang/IndexOutOfBoundsException" ["java/lang/RuntimeException", "java/lang/Exception"]).filter goodWord, w ∈ wsX4_requirePoint := by
  intro w h
  simp only [wsX4_requirePoint, List.mem_cons, List.mem_append, h, or_true, true_or]
set_option maxHeartbeats 4000000 in
set_option maxRecDepth 100000 in
/-- requirePoint -/
theorem c_reqPoint (l : Launch) (G : gT) (hst : l.stackTraces = false) (X : Nat → Nat) (so : tOb) (o : Nat) (r : aRw) (x : aAx) (y : aAx) (b : aBd) (i : Int32) (sz : Nat) : XV l yX4_requirePoint wsX4_requirePoint ({ frames := 6, cells := 1, slots := 6, locals := 90 }) G X [.ref o, .int i] (wOb G (o, x.1, y.1, r.1, b.1) so) (wOb G (o, x.1, y.1, r.1, b.1) so) sz (exIn so.1 i) 1 6 := by
  refine x_of (Qc := fun A9 => (va_Qv (fun (_ : Unit) => (exIn so.1 i) = none) (fun _ t9 => wPost G A9 (wOb G (o, x.1, y.1, r.1, b.1) so) t9) A9)) (XC := fun A9 => (xC G A9 (wOb G (o, x.1, y.1, r.1, b.1) so) (exIn so.1 i))) (cc := cX4_requirePoint) (maxL := 2) (ret := none) (by decide) rfl (Nat.le_of_ble_eq_true rfl) ?_
  intro p9 e9 s9 m9 A9 be9 mt9 c9 H locs ls hx hb hr hts hown hlocks hin hml htab hK hA hF hw hl
  have hl : lv_has ls 2 [(0, .ref o), (1, .int i)] := hl
  refine lv_iload_n hx hb dX4_requirePoint_0 rfl (lv_at hl 1 rfl) ?_
  refine lv_if_lt (tgt := 12) hx hb dX4_requirePoint_1 (by decide) (fun c_1 => ?_) (fun c_1 => ?_)
  · exact x_throw (text := "there is no such point") hx hb hst hown (by decide +kernel) (hts _ wmX4_requirePoint_reqPoint_0) (hts _ wmX4_requirePoint_reqPoint_1) (by decide +kernel) (fun w h => hts w (wxX4_requirePoint_reqPoint_B w h)) xbB xgB hF hK hw (hl.1.trans hml.symm) dX4_requirePoint_12 dX4_requirePoint_15 dX4_requirePoint_16 dX4_requirePoint_18 dX4_requirePoint_21 htab (Nat.le_of_ble_eq_true rfl) (Nat.le_of_ble_eq_true rfl) (Nat.le_of_ble_eq_true rfl) (Nat.le_of_ble_eq_true rfl) hlocks (by simp only [exIn, xo, if_pos c_1]) rfl (Nat.le_of_ble_eq_true rfl) (Nat.le_of_ble_eq_true rfl)
  · refine lv_iload_n hx hb dX4_requirePoint_4 rfl (lv_at hl 1 rfl) ?_
    refine lv_aload_n hx hb dX4_requirePoint_5 rfl (lv_at hl 0 rfl) ?_
    refine r_get (ci := 4) (v := .int (nI so.1)) (C := RX4) (T := TX4) (N := 6) hx hb hts wiX4_requirePoint_reqPoint_X4 hown hK hw 0 rfl rfl 4 (by decide) wmX4_requirePoint_reqPoint_2 (fun _ h9 => h9) rfl dX4_requirePoint_6 ?_
    refine lv_icmp_lt (tgt := 22) hx hb dX4_requirePoint_9 (by decide) (fun c_9 => ?_) (fun c_9 => ?_)
    · exact x_vret hx hb hr hlocks hK hw (Nat.le_of_ble_eq_true rfl) (Nat.le_of_ble_eq_true rfl) dX4_requirePoint_22 (by simp only [exIn, xo, if_neg c_1, if_pos c_9]) rfl
    · exact x_throw (text := "there is no such point") hx hb hst hown (by decide +kernel) (hts _ wmX4_requirePoint_reqPoint_0) (hts _ wmX4_requirePoint_reqPoint_1) (by decide +kernel) (fun w h => hts w (wxX4_requirePoint_reqPoint_B w h)) xbB xgB hF hK hw (hl.1.trans hml.symm) dX4_requirePoint_12 dX4_requirePoint_15 dX4_requirePoint_16 dX4_requirePoint_18 dX4_requirePoint_21 htab (Nat.le_of_ble_eq_true rfl) (Nat.le_of_ble_eq_true rfl) (Nat.le_of_ble_eq_true rfl) (Nat.le_of_ble_eq_true rfl) hlocks (by simp only [exIn, xo, if_neg c_1, if_neg c_9]) rfl (Nat.le_of_ble_eq_true rfl) (Nat.le_of_ble_eq_true rfl)

theorem wiX4_requireWish_reqWish_X3 : ∀ w ∈ wsX30, w ∈ wsX4_requireWish := by decide +kernel
theorem wiX4_requireWish_reqWish_X4 : ∀ w ∈ wsX40, w ∈ wsX4_requireWish := by decide +kernel
theorem wmX4_requireWish_reqWish_0 : Cond.classLink RX4 168 "java/lang/IndexOutOfBoundsException" ∈ wsX4_requireWish := by decide +kernel
theorem wmX4_requireWish_reqWish_1 : Cond.initialized "java/lang/IndexOutOfBoundsException" ∈ wsX4_requireWish := by decide +kernel
theorem wmX4_requireWish_reqWish_2 : Cond.fieldLink RX4 22 "PartSketch" "rows" "LPartSketch$WishRows;" ∈ wsX4_requireWish := by decide +kernel
theorem wmX4_requireWish_reqWish_3 : Cond.fieldLink RX4 62 "PartSketch$WishRows" "count" "I" ∈ wsX4_requireWish := by decide +kernel
theorem wxX4_requireWish_reqWish_B : ∀ w ∈ (vx_atS RX4 172 "java/lang/IndexOutOfBoundsException" ["java/lang/RuntimeException", "java/lang/Exception"]).filter goodWord, w ∈ wsX4_requireWish := by
  intro w h
  simp only [wsX4_requireWish, List.mem_cons, List.mem_append, h, or_true, true_or]
set_option maxHeartbeats 4000000 in
set_option maxRecDepth 100000 in
/-- requireWish -/
theorem c_reqWish (l : Launch) (G : gT) (hst : l.stackTraces = false) (X : Nat → Nat) (r : aRw) (rs : tRw) (so : tOb) (o : Nat) (x : aAx) (y : aAx) (b : aBd) (i : Int32) (sz : Nat) : XV l yX4_requireWish wsX4_requireWish ({ frames := 6, cells := 1, slots := 6, locals := 90 }) G X [.ref o, .int i] (wRw G r rs ++ (wOb G (o, x.1, y.1, r.1, b.1) so)) (wRw G r rs ++ (wOb G (o, x.1, y.1, r.1, b.1) so)) sz (exIn rs.1 i) 1 6 := by
  refine x_of (Qc := fun A9 => (va_Qv (fun (_ : Unit) => (exIn rs.1 i) = none) (fun _ t9 => wPost G A9 (wRw G r rs ++ (wOb G (o, x.1, y.1, r.1, b.1) so)) t9) A9)) (XC := fun A9 => (xC G A9 (wRw G r rs ++ (wOb G (o, x.1, y.1, r.1, b.1) so)) (exIn rs.1 i))) (cc := cX4_requireWish) (maxL := 2) (ret := none) (by decide) rfl (Nat.le_of_ble_eq_true rfl) ?_
  intro p9 e9 s9 m9 A9 be9 mt9 c9 H locs ls hx hb hr hts hown hlocks hin hml htab hK hA hF hw hl
  have hl : lv_has ls 2 [(0, .ref o), (1, .int i)] := hl
  refine lv_iload_n hx hb dX4_requireWish_0 rfl (lv_at hl 1 rfl) ?_
  refine lv_if_lt (tgt := 15) hx hb dX4_requireWish_1 (by decide) (fun c_1 => ?_) (fun c_1 => ?_)
  · exact x_throw (text := "there is no such wish") hx hb hst hown (by decide +kernel) (hts _ wmX4_requireWish_reqWish_0) (hts _ wmX4_requireWish_reqWish_1) (by decide +kernel) (fun w h => hts w (wxX4_requireWish_reqWish_B w h)) xbB xgB hF hK hw (hl.1.trans hml.symm) dX4_requireWish_15 dX4_requireWish_18 dX4_requireWish_19 dX4_requireWish_21 dX4_requireWish_24 htab (Nat.le_of_ble_eq_true rfl) (Nat.le_of_ble_eq_true rfl) (Nat.le_of_ble_eq_true rfl) (Nat.le_of_ble_eq_true rfl) hlocks (by simp only [exIn, xo, if_pos c_1]) rfl (Nat.le_of_ble_eq_true rfl) (Nat.le_of_ble_eq_true rfl)
  · refine lv_iload_n hx hb dX4_requireWish_4 rfl (lv_at hl 1 rfl) ?_
    refine lv_aload_n hx hb dX4_requireWish_5 rfl (lv_at hl 0 rfl) ?_
    refine r_get (ci := 4) (v := .ref r.1) (C := RX4) (T := TX4) (N := 6) hx hb hts wiX4_requireWish_reqWish_X4 hown hK hw 11 rfl rfl 2 (by decide) wmX4_requireWish_reqWish_2 (fun _ h9 => h9) rfl dX4_requireWish_6 ?_
    refine r_get (ci := 3) (v := .int (nI rs.1)) (C := RX3) (T := TX3) (N := 7) hx hb hts wiX4_requireWish_reqWish_X3 hown hK hw 0 rfl rfl 0 (by decide) wmX4_requireWish_reqWish_3 (fun _ h9 => h9) rfl dX4_requireWish_9 ?_
    refine lv_icmp_lt (tgt := 25) hx hb dX4_requireWish_12 (by decide) (fun c_12 => ?_) (fun c_12 => ?_)
    · exact x_vret hx hb hr hlocks hK hw (Nat.le_of_ble_eq_true rfl) (Nat.le_of_ble_eq_true rfl) dX4_requireWish_25 (by simp only [exIn, xo, if_neg c_1, if_pos c_12]) rfl
    · exact x_throw (text := "there is no such wish") hx hb hst hown (by decide +kernel) (hts _ wmX4_requireWish_reqWish_0) (hts _ wmX4_requireWish_reqWish_1) (by decide +kernel) (fun w h => hts w (wxX4_requireWish_reqWish_B w h)) xbB xgB hF hK hw (hl.1.trans hml.symm) dX4_requireWish_15 dX4_requireWish_18 dX4_requireWish_19 dX4_requireWish_21 dX4_requireWish_24 htab (Nat.le_of_ble_eq_true rfl) (Nat.le_of_ble_eq_true rfl) (Nat.le_of_ble_eq_true rfl) (Nat.le_of_ble_eq_true rfl) hlocks (by simp only [exIn, xo, if_neg c_1, if_neg c_12]) rfl (Nat.le_of_ble_eq_true rfl) (Nat.le_of_ble_eq_true rfl)

theorem wiX4_requireSized_reqSized_X3 : ∀ w ∈ wsX30, w ∈ wsX4_requireSized := by decide +kernel
theorem wiX4_requireSized_reqSized_X4 : ∀ w ∈ wsX40, w ∈ wsX4_requireSized := by decide +kernel
theorem wmX4_requireSized_reqSized_0 : Cond.fieldLink RX4 22 "PartSketch" "rows" "LPartSketch$WishRows;" ∈ wsX4_requireSized := by decide +kernel
theorem wmX4_requireSized_reqSized_1 : Cond.fieldLink RX4 175 "PartSketch$WishRows" "kind" "[I" ∈ wsX4_requireSized := by decide +kernel
theorem wmX4_requireSized_reqSized_2 : Cond.classLink RX4 41 "java/lang/IllegalStateException" ∈ wsX4_requireSized := by decide +kernel
theorem wmX4_requireSized_reqSized_3 : Cond.initialized "java/lang/IllegalStateException" ∈ wsX4_requireSized := by decide +kernel
theorem wxX4_requireSized_reqSized_S : ∀ w ∈ (vx_atS RX4 45 "java/lang/IllegalStateException" ["java/lang/RuntimeException", "java/lang/Exception"]).filter goodWord, w ∈ wsX4_requireSized := by
  intro w h
  simp only [wsX4_requireSized, List.mem_cons, List.mem_append, h, or_true, true_or]
set_option maxHeartbeats 4000000 in
set_option maxRecDepth 100000 in
/-- requireSized -/
theorem c_reqSized (l : Launch) (G : gT) (hst : l.stackTraces = false) (X : Nat → Nat) (r : aRw) (rs : tRw) (so : tOb) (o : Nat) (x : aAx) (y : aAx) (b : aBd) (w : Nat) (hw40 : w < 40) (sz : Nat) : XV l yX4_requireSized wsX4_requireSized ({ frames := 6, cells := 1, slots := 6, locals := 90 }) G X [.ref o, .int (nI w)] (wRw G r rs ++ (wOb G (o, x.1, y.1, r.1, b.1) so)) (wRw G r rs ++ (wOb G (o, x.1, y.1, r.1, b.1) so)) sz (exSized (rs.2.1 w)) 1 6 := by
  refine x_of (Qc := fun A9 => (va_Qv (fun (_ : Unit) => (exSized (rs.2.1 w)) = none) (fun _ t9 => wPost G A9 (wRw G r rs ++ (wOb G (o, x.1, y.1, r.1, b.1) so)) t9) A9)) (XC := fun A9 => (xC G A9 (wRw G r rs ++ (wOb G (o, x.1, y.1, r.1, b.1) so)) (exSized (rs.2.1 w)))) (cc := cX4_requireSized) (maxL := 2) (ret := none) (by decide) rfl (Nat.le_of_ble_eq_true rfl) ?_
  intro p9 e9 s9 m9 A9 be9 mt9 c9 H locs ls hx hb hr hts hown hlocks hin hml htab hK hA hF hw hl
  have hl : lv_has ls 2 [(0, .ref o), (1, .int (nI w))] := hl
  refine lv_aload_n hx hb dX4_requireSized_0 rfl (lv_at hl 0 rfl) ?_
  refine r_get (ci := 4) (v := .ref r.1) (C := RX4) (T := TX4) (N := 6) hx hb hts wiX4_requireSized_reqSized_X4 hown hK hw 11 rfl rfl 2 (by decide) wmX4_requireSized_reqSized_0 (fun _ h9 => h9) rfl dX4_requireSized_1 ?_
  refine r_get (ci := 3) (v := .ref r.2.1) (C := RX3) (T := TX3) (N := 7) hx hb hts wiX4_requireSized_reqSized_X3 hown hK hw 0 rfl rfl 1 (by decide) wmX4_requireSized_reqSized_1 (fun _ h9 => h9) rfl dX4_requireSized_4 ?_
  refine lv_iload_n hx hb dX4_requireSized_7 rfl (lv_at hl 1 rfl) ?_
  refine r_iald (v := rs.2.1 w) hx hb hK hw 1 rfl w rfl (by omega) (by decide) rfl dX4_requireSized_8 ?_
  refine lv_iconst (v := 2) hx hb dX4_requireSized_9 (by decide) ?_
  refine lv_icmp_ne (tgt := 23) hx hb dX4_requireSized_10 (by decide) (fun c_10 => ?_) (fun c_10 => ?_)
  · exact x_vret hx hb hr hlocks hK hw (Nat.le_of_ble_eq_true rfl) (Nat.le_of_ble_eq_true rfl) dX4_requireSized_23 (by simp only [exSized, xo, if_neg c_10]) rfl
  · exact x_throw (text := "a wish of the kind 2 has no size") hx hb hst hown (by decide +kernel) (hts _ wmX4_requireSized_reqSized_2) (hts _ wmX4_requireSized_reqSized_3) (by decide +kernel) (fun w h => hts w (wxX4_requireSized_reqSized_S w h)) xbS xgS hF hK hw (hl.1.trans hml.symm) dX4_requireSized_13 dX4_requireSized_16 dX4_requireSized_17 dX4_requireSized_19 dX4_requireSized_22 htab (Nat.le_of_ble_eq_true rfl) (Nat.le_of_ble_eq_true rfl) (Nat.le_of_ble_eq_true rfl) (Nat.le_of_ble_eq_true rfl) hlocks (by simp only [exSized, xo, if_pos c_10]) rfl (Nat.le_of_ble_eq_true rfl) (Nat.le_of_ble_eq_true rfl)

theorem wiX4_requirePocket_reqPocket_X2 : ∀ w ∈ wsX20, w ∈ wsX4_requirePocket := by decide +kernel
theorem wiX4_requirePocket_reqPocket_X4 : ∀ w ∈ wsX40, w ∈ wsX4_requirePocket := by decide +kernel
theorem wmX4_requirePocket_reqPocket_0 : Cond.classLink RX4 168 "java/lang/IndexOutOfBoundsException" ∈ wsX4_requirePocket := by decide +kernel
theorem wmX4_requirePocket_reqPocket_1 : Cond.initialized "java/lang/IndexOutOfBoundsException" ∈ wsX4_requirePocket := by decide +kernel
theorem wmX4_requirePocket_reqPocket_2 : Cond.fieldLink RX4 29 "PartSketch" "body" "LPartSketch$Body;" ∈ wsX4_requirePocket := by decide +kernel
theorem wmX4_requirePocket_reqPocket_3 : Cond.fieldLink RX4 140 "PartSketch$Body" "pockets" "I" ∈ wsX4_requirePocket := by decide +kernel
theorem wxX4_requirePocket_reqPocket_B : ∀ w ∈ (vx_atS RX4 172 "java/lang/IndexOutOfBoundsException" ["java/lang/RuntimeException", "java/lang/Exception"]).filter goodWord, w ∈ wsX4_requirePocket := by
  intro w h
  simp only [wsX4_requirePocket, List.mem_cons, List.mem_append, h, or_true, true_or]
set_option maxHeartbeats 4000000 in
set_option maxRecDepth 100000 in
/-- requirePocket -/
theorem c_reqPocket (l : Launch) (G : gT) (hst : l.stackTraces = false) (X : Nat → Nat) (r : aRw) (rs : tRw) (so : tOb) (x : aAx) (tx : tAx) (y : aAx) (ty : tAx) (b : aBd) (bs : tBd) (o : Nat) (i : Int32) (sz : Nat) : XV l yX4_requirePocket wsX4_requirePocket ({ frames := 6, cells := 1, slots := 6, locals := 90 }) G X [.ref o, .int i] (wRw G r rs ++ (wOb G (o, x.1, y.1, r.1, b.1) so ++ (wAx G x tx ++ (wAx G y ty ++ (wBd G b bs))))) (wRw G r rs ++ (wOb G (o, x.1, y.1, r.1, b.1) so ++ (wAx G x tx ++ (wAx G y ty ++ (wBd G b bs))))) sz (exIn bs.2.1 i) 1 6 := by
  refine x_of (Qc := fun A9 => (va_Qv (fun (_ : Unit) => (exIn bs.2.1 i) = none) (fun _ t9 => wPost G A9 (wRw G r rs ++ (wOb G (o, x.1, y.1, r.1, b.1) so ++ (wAx G x tx ++ (wAx G y ty ++ (wBd G b bs))))) t9) A9)) (XC := fun A9 => (xC G A9 (wRw G r rs ++ (wOb G (o, x.1, y.1, r.1, b.1) so ++ (wAx G x tx ++ (wAx G y ty ++ (wBd G b bs))))) (exIn bs.2.1 i))) (cc := cX4_requirePocket) (maxL := 2) (ret := none) (by decide) rfl (Nat.le_of_ble_eq_true rfl) ?_
  intro p9 e9 s9 m9 A9 be9 mt9 c9 H locs ls hx hb hr hts hown hlocks hin hml htab hK hA hF hw hl
  have hl : lv_has ls 2 [(0, .ref o), (1, .int i)] := hl
  refine lv_iload_n hx hb dX4_requirePocket_0 rfl (lv_at hl 1 rfl) ?_
  refine lv_if_lt (tgt := 15) hx hb dX4_requirePocket_1 (by decide) (fun c_1 => ?_) (fun c_1 => ?_)
  · exact x_throw (text := "there is no such pocket") hx hb hst hown (by decide +kernel) (hts _ wmX4_requirePocket_reqPocket_0) (hts _ wmX4_requirePocket_reqPocket_1) (by decide +kernel) (fun w h => hts w (wxX4_requirePocket_reqPocket_B w h)) xbB xgB hF hK hw (hl.1.trans hml.symm) dX4_requirePocket_15 dX4_requirePocket_18 dX4_requirePocket_19 dX4_requirePocket_21 dX4_requirePocket_24 htab (Nat.le_of_ble_eq_true rfl) (Nat.le_of_ble_eq_true rfl) (Nat.le_of_ble_eq_true rfl) (Nat.le_of_ble_eq_true rfl) hlocks (by simp only [exIn, xo, if_pos c_1]) rfl (Nat.le_of_ble_eq_true rfl) (Nat.le_of_ble_eq_true rfl)
  · refine lv_iload_n hx hb dX4_requirePocket_4 rfl (lv_at hl 1 rfl) ?_
    refine lv_aload_n hx hb dX4_requirePocket_5 rfl (lv_at hl 0 rfl) ?_
    refine r_get (ci := 4) (v := .ref b.1) (C := RX4) (T := TX4) (N := 6) hx hb hts wiX4_requirePocket_reqPocket_X4 hown hK hw 11 rfl rfl 3 (by decide) wmX4_requirePocket_reqPocket_2 (fun _ h9 => h9) rfl dX4_requirePocket_6 ?_
    refine r_get (ci := 2) (v := .int (nI bs.2.1)) (C := RX2) (T := TX2) (N := 5) hx hb hts wiX4_requirePocket_reqPocket_X2 hown hK hw 20 rfl rfl 1 (by decide) wmX4_requirePocket_reqPocket_3 (fun _ h9 => h9) rfl dX4_requirePocket_9 ?_
    refine lv_icmp_lt (tgt := 25) hx hb dX4_requirePocket_12 (by decide) (fun c_12 => ?_) (fun c_12 => ?_)
    · exact x_vret hx hb hr hlocks hK hw (Nat.le_of_ble_eq_true rfl) (Nat.le_of_ble_eq_true rfl) dX4_requirePocket_25 (by simp only [exIn, xo, if_neg c_1, if_pos c_12]) rfl
    · exact x_throw (text := "there is no such pocket") hx hb hst hown (by decide +kernel) (hts _ wmX4_requirePocket_reqPocket_0) (hts _ wmX4_requirePocket_reqPocket_1) (by decide +kernel) (fun w h => hts w (wxX4_requirePocket_reqPocket_B w h)) xbB xgB hF hK hw (hl.1.trans hml.symm) dX4_requirePocket_15 dX4_requirePocket_18 dX4_requirePocket_19 dX4_requirePocket_21 dX4_requirePocket_24 htab (Nat.le_of_ble_eq_true rfl) (Nat.le_of_ble_eq_true rfl) (Nat.le_of_ble_eq_true rfl) (Nat.le_of_ble_eq_true rfl) hlocks (by simp only [exIn, xo, if_neg c_1, if_neg c_12]) rfl (Nat.le_of_ble_eq_true rfl) (Nat.le_of_ble_eq_true rfl)

theorem wiX4_point_point_X4 : ∀ w ∈ wsX40, w ∈ wsX4_point := by decide +kernel
theorem wmX4_point_point_0 : Cond.fieldLink RX4 37 "PartSketch" "points" "I" ∈ wsX4_point := by decide +kernel
theorem wmX4_point_point_1 : Cond.classLink RX4 41 "java/lang/IllegalStateException" ∈ wsX4_point := by decide +kernel
theorem wmX4_point_point_2 : Cond.initialized "java/lang/IllegalStateException" ∈ wsX4_point := by decide +kernel
theorem wxX4_point_point_S : ∀ w ∈ (vx_atS RX4 45 "java/lang/IllegalStateException" ["java/lang/RuntimeException", "java/lang/Exception"]).filter goodWord, w ∈ wsX4_point := by
  intro w h
  simp only [wsX4_point, List.mem_cons, List.mem_append, h, or_true, true_or]
set_option maxHeartbeats 4000000 in
set_option maxRecDepth 100000 in
/-- point -/
theorem c_point (l : Launch) (G : gT) (hst : l.stackTraces = false) (X : Nat → Nat) (so : tOb) (x : aAx) (tx : tAx) (y : aAx) (ty : tAx) (o : Nat) (r : aRw) (b : aBd) (u : Int32) (v : Int32) (hnp : so.1 ≤ 16) (sz : Nat) : XI l yX4_point wsX4_point ({ frames := 7, cells := 3, slots := 18, locals := 110 }) G X [.ref o, .int u, .int v] (wOb G (o, x.1, y.1, r.1, b.1) so ++ (wAx G x tx ++ (wAx G y ty))) (wOb G (o, x.1, y.1, r.1, b.1) ((so.1 + 1), 0) ++ (wAx G x ((upd tx.1 so.1 u), tx.2.1, tx.2.2.1, tx.2.2.2) ++ (wAx G y ((upd ty.1 so.1 v), ty.2.1, ty.2.2.1, ty.2.2.2)))) sz (exPoint so.1 u v) (nI so.1) 3 18 := by
  refine x_of (Qc := fun A9 => (va_Qi (fun (r9 : Int32) (_ : Unit) => (exPoint so.1 u v) = none ∧ r9 = (nI so.1)) (fun _ t9 => wPost G A9 (wOb G (o, x.1, y.1, r.1, b.1) ((so.1 + 1), 0) ++ (wAx G x ((upd tx.1 so.1 u), tx.2.1, tx.2.2.1, tx.2.2.2) ++ (wAx G y ((upd ty.1 so.1 v), ty.2.1, ty.2.2.1, ty.2.2.2)))) t9) A9)) (XC := fun A9 => (xC G A9 (wOb G (o, x.1, y.1, r.1, b.1) so ++ (wAx G x tx ++ (wAx G y ty))) (exPoint so.1 u v))) (cc := cX4_point) (maxL := 4) (ret := (some .int)) (by decide) rfl (Nat.le_of_ble_eq_true rfl) ?_
  intro p9 e9 s9 m9 A9 be9 mt9 c9 H locs ls hx hb hr hts hown hlocks hin hml htab hK hA hF hw hl
  have hl : lv_has ls 4 [(0, .ref o), (1, .int u), (2, .int v)] := hl
  refine lv_iload_n hx hb dX4_point_0 rfl (lv_at hl 1 rfl) ?_
  have hwc : wW G A9 s9.heap (([] : va_W) ++ (([] : va_W) ++ (wOb G (o, x.1, y.1, r.1, b.1) so ++ (wAx G x tx ++ (wAx G y ty))))) H locs := hw
  refine x_callv (u := ([] : va_W)) (w := ([] : va_W)) (v := wOb G (o, x.1, y.1, r.1, b.1) so ++ (wAx G x tx ++ (wAx G y ty))) (vx_runS (As := [.int u]) (rest := []) ⟨hx, hb, hml, hown, hts⟩ (c_reqReach l G hst X u H.size) (va_cwS 1 hts gX4_point_X4_requireReach rfl rfl rfl (by decide +kernel) ⟨Nat.le_of_ble_eq_true rfl, Nat.le_of_ble_eq_true rfl⟩) (x_preS hK hF hA hwc) rfl rfl hl.1 rfl (lv_room (Nat.le_of_ble_eq_true rfl)) dX4_point_1 ⟨Nat.le_of_ble_eq_true rfl, Nat.le_of_ble_eq_true rfl⟩) hwc hA rfl rfl htab hlocks hK (fun E hE => by simp only [exPoint, xo, hE]) rfl (Nat.le_of_ble_eq_true rfl) (Nat.le_of_ble_eq_true rfl) (fun n_1 H locs hw => ?_)
  have n_1 : exReach u = none := n_1
  have hw : wW G A9 s9.heap (wOb G (o, x.1, y.1, r.1, b.1) so ++ (wAx G x tx ++ (wAx G y ty))) H locs := hw
  refine lv_iload_n hx hb dX4_point_4 rfl (lv_at hl 2 rfl) ?_
  have hwc : wW G A9 s9.heap (([] : va_W) ++ (([] : va_W) ++ (wOb G (o, x.1, y.1, r.1, b.1) so ++ (wAx G x tx ++ (wAx G y ty))))) H locs := hw
  refine x_callv (u := ([] : va_W)) (w := ([] : va_W)) (v := wOb G (o, x.1, y.1, r.1, b.1) so ++ (wAx G x tx ++ (wAx G y ty))) (vx_runS (As := [.int v]) (rest := []) ⟨hx, hb, hml, hown, hts⟩ (c_reqReach l G hst X v H.size) (va_cwS 1 hts gX4_point_X4_requireReach rfl rfl rfl (by decide +kernel) ⟨Nat.le_of_ble_eq_true rfl, Nat.le_of_ble_eq_true rfl⟩) (x_preS hK hF hA hwc) rfl rfl hl.1 rfl (lv_room (Nat.le_of_ble_eq_true rfl)) dX4_point_5 ⟨Nat.le_of_ble_eq_true rfl, Nat.le_of_ble_eq_true rfl⟩) hwc hA rfl rfl htab hlocks hK (fun E hE => by simp only [exPoint, xo, hE, n_1]) rfl (Nat.le_of_ble_eq_true rfl) (Nat.le_of_ble_eq_true rfl) (fun n_5 H locs hw => ?_)
  have n_5 : exReach v = none := n_5
  have hw : wW G A9 s9.heap (wOb G (o, x.1, y.1, r.1, b.1) so ++ (wAx G x tx ++ (wAx G y ty))) H locs := hw
  refine lv_aload_n hx hb dX4_point_8 rfl (lv_at hl 0 rfl) ?_
  refine r_get (ci := 4) (v := .int (nI so.1)) (C := RX4) (T := TX4) (N := 6) hx hb hts wiX4_point_point_X4 hown hK hw 0 rfl rfl 4 (by decide) wmX4_point_point_0 (fun _ h9 => h9) rfl dX4_point_9 ?_
  refine lv_bipush (v := 16) hx hb dX4_point_12 (by decide) ?_
  refine lv_icmp_lt (tgt := 27) hx hb dX4_point_14 (by decide) (fun c_14 => ?_) (fun c_14 => ?_)
  · have h16 : so.1 < 16 := x_lt (b := 16) (by omega) (by decide) c_14
    refine lv_aload_n hx hb dX4_point_27 rfl (lv_at hl 0 rfl) ?_
    refine r_get (ci := 4) (v := .int (nI so.1)) (C := RX4) (T := TX4) (N := 6) hx hb hts wiX4_point_point_X4 hown hK hw 0 rfl rfl 4 (by decide) wmX4_point_point_0 (fun _ h9 => h9) rfl dX4_point_28 ?_
    refine lv_istore_n (lv' := [(3, .int (nI so.1)), (0, .ref o), (1, .int u), (2, .int v)]) hx hb dX4_point_31 rfl hl (by decide) rfl (fun ls hl => ?_)
    refine lv_aload_n hx hb dX4_point_32 rfl (lv_at hl 1 rfl) ?_
    refine lv_dup hx hb dX4_point_33 rfl ?_
    refine r_get (ci := 4) (v := .int (nI so.1)) (C := RX4) (T := TX4) (N := 6) hx hb hts wiX4_point_point_X4 hown hK hw 0 rfl rfl 4 (by decide) wmX4_point_point_0 (fun _ h9 => h9) rfl dX4_point_34 ?_
    refine lv_iconst (v := 1) hx hb dX4_point_37 (by decide) ?_
    refine lv_iadd hx hb dX4_point_38 ?_
    refine r_top (y := nI (so.1 + 1)) (nI_add so.1 1) ?_
    refine r_put (ci := 4) (v := .int (nI (so.1 + 1))) (ty := .int) (C := RX4) (T := TX4) (N := 6) hx hb hts wiX4_point_point_X4 tyX4 tyX4_ok nmX4 hown hK hw 0 rfl rfl 4 (by decide) wmX4_point_point_0 (fun _ h9 => h9) rfl (by decide +kernel) rfl rfl (Nat.le_of_ble_eq_true rfl) dX4_point_39 (ws' := wOb G (o, x.1, y.1, r.1, b.1) (so.1 + 1, so.2) ++ (wAx G x tx ++ (wAx G y ty))) rfl (fun H locs hw => ?_)
    refine lv_aload_n hx hb dX4_point_42 rfl (lv_at hl 1 rfl) ?_
    refine lv_iload_n hx hb dX4_point_43 rfl (lv_at hl 0 rfl) ?_
    refine lv_iload_n hx hb dX4_point_44 rfl (lv_at hl 2 rfl) ?_
    refine lv_iload_n hx hb dX4_point_45 rfl (lv_at hl 3 rfl) ?_
    have hwc : wW G A9 s9.heap (([] : va_W) ++ ((wOb G (o, x.1, y.1, r.1, b.1) (so.1 + 1, so.2) ++ (wAx G x tx ++ (wAx G y ty))) ++ ([] : va_W))) H locs := hw
    refine r_callv (u := ([] : va_W)) (w := wOb G (o, x.1, y.1, r.1, b.1) (so.1 + 1, so.2) ++ (wAx G x tx ++ (wAx G y ty))) (v := ([] : va_W)) (va_runV (As := [.int (nI so.1), .int u, .int v]) (rest := []) ⟨hx, hb, hml, hown, hts⟩ (c_moveHint l G (so.1 + 1, so.2) x tx y ty o r b so.1 u v (by first | assumption | omega | decide) H.size) (cwV 3 hts gX4_point_X4_moveHint rfl rfl rfl (by decide +kernel) ⟨Nat.le_of_ble_eq_true rfl, Nat.le_of_ble_eq_true rfl⟩) (r_preV (ci := 4) (q0 := 0) hK hwc rfl rfl rfl) rfl rfl hl.1 rfl (lv_room (Nat.le_of_ble_eq_true rfl)) dX4_point_46 ⟨Nat.le_of_ble_eq_true rfl, Nat.le_of_ble_eq_true rfl⟩) hwc hA rfl rfl (fun H locs hw => ?_)
    have hw : wW G A9 s9.heap (wOb G (o, x.1, y.1, r.1, b.1) (so.1 + 1, 0) ++ (wAx G x ((upd tx.1 so.1 u), tx.2.1, tx.2.2.1, tx.2.2.2) ++ (wAx G y ((upd ty.1 so.1 v), ty.2.1, ty.2.2.1, ty.2.2.2)))) H locs := hw
    refine lv_iload_n hx hb dX4_point_49 rfl (lv_at hl 0 rfl) ?_
    exact x_iret hx hb hr hlocks hK hw (Nat.le_of_ble_eq_true rfl) (Nat.le_of_ble_eq_true rfl) dX4_point_50 (by simp only [exPoint, xo, n_1, n_5, if_pos c_14]) (show (nI so.1 : Int32) = nI so.1 by rfl) rfl
  · exact x_throw (text := "there are 16 points") hx hb hst hown (by decide +kernel) (hts _ wmX4_point_point_1) (hts _ wmX4_point_point_2) (by decide +kernel) (fun w h => hts w (wxX4_point_point_S w h)) xbS xgS hF hK hw (hl.1.trans hml.symm) dX4_point_17 dX4_point_20 dX4_point_21 dX4_point_23 dX4_point_26 htab (Nat.le_of_ble_eq_true rfl) (Nat.le_of_ble_eq_true rfl) (Nat.le_of_ble_eq_true rfl) (Nat.le_of_ble_eq_true rfl) hlocks (by simp only [exPoint, xo, n_1, n_5, if_neg c_14]) rfl (Nat.le_of_ble_eq_true rfl) (Nat.le_of_ble_eq_true rfl)

set_option maxHeartbeats 4000000 in
set_option maxRecDepth 100000 in
/-- hint -/
theorem c_hint (l : Launch) (G : gT) (hst : l.stackTraces = false) (X : Nat → Nat) (so : tOb) (x : aAx) (tx : tAx) (y : aAx) (ty : tAx) (o : Nat) (r : aRw) (b : aBd) (i : Int32) (u : Int32) (v : Int32) (hnp : so.1 ≤ 16) (sz : Nat) : XV l yX4_hint wsX4_hint ({ frames := 7, cells := 3, slots := 18, locals := 111 }) G X [.ref o, .int i, .int u, .int v] (wOb G (o, x.1, y.1, r.1, b.1) so ++ (wAx G x tx ++ (wAx G y ty))) (wOb G (o, x.1, y.1, r.1, b.1) (so.1, 0) ++ (wAx G x ((upd tx.1 (iN i) u), tx.2.1, tx.2.2.1, tx.2.2.2) ++ (wAx G y ((upd ty.1 (iN i) v), ty.2.1, ty.2.2.1, ty.2.2.2)))) sz (exHint so.1 i u v) 3 18 := by
  refine x_of (Qc := fun A9 => (va_Qv (fun (_ : Unit) => (exHint so.1 i u v) = none) (fun _ t9 => wPost G A9 (wOb G (o, x.1, y.1, r.1, b.1) (so.1, 0) ++ (wAx G x ((upd tx.1 (iN i) u), tx.2.1, tx.2.2.1, tx.2.2.2) ++ (wAx G y ((upd ty.1 (iN i) v), ty.2.1, ty.2.2.1, ty.2.2.2)))) t9) A9)) (XC := fun A9 => (xC G A9 (wOb G (o, x.1, y.1, r.1, b.1) so ++ (wAx G x tx ++ (wAx G y ty))) (exHint so.1 i u v))) (cc := cX4_hint) (maxL := 4) (ret := none) (by decide) rfl (Nat.le_of_ble_eq_true rfl) ?_
  intro p9 e9 s9 m9 A9 be9 mt9 c9 H locs ls hx hb hr hts hown hlocks hin hml htab hK hA hF hw hl
  have hl : lv_has ls 4 [(0, .ref o), (1, .int i), (2, .int u), (3, .int v)] := hl
  refine lv_aload_n hx hb dX4_hint_0 rfl (lv_at hl 0 rfl) ?_
  refine lv_iload_n hx hb dX4_hint_1 rfl (lv_at hl 1 rfl) ?_
  have hwc : wW G A9 s9.heap (([] : va_W) ++ ((wOb G (o, x.1, y.1, r.1, b.1) so) ++ (wAx G x tx ++ (wAx G y ty)))) H locs := hw
  refine x_callv (u := ([] : va_W)) (w := wOb G (o, x.1, y.1, r.1, b.1) so) (v := wAx G x tx ++ (wAx G y ty)) (vx_runV (As := [.int i]) (rest := []) ⟨hx, hb, hml, hown, hts⟩ (c_reqPoint l G hst X so o r x y b i H.size) (cwV 1 hts gX4_hint_X4_requirePoint rfl rfl rfl (by decide +kernel) ⟨Nat.le_of_ble_eq_true rfl, Nat.le_of_ble_eq_true rfl⟩) (x_preV (ci := 4) (q0 := 0) hK hF hA hwc rfl rfl rfl) rfl rfl hl.1 rfl (lv_room (Nat.le_of_ble_eq_true rfl)) dX4_hint_2 ⟨Nat.le_of_ble_eq_true rfl, Nat.le_of_ble_eq_true rfl⟩) hwc hA rfl rfl htab hlocks hK (fun E hE => by simp only [exHint, xo, hE]) rfl (Nat.le_of_ble_eq_true rfl) (Nat.le_of_ble_eq_true rfl) (fun n_2 H locs hw => ?_)
  have n_2 : exIn so.1 i = none := n_2
  have hw : wW G A9 s9.heap (wOb G (o, x.1, y.1, r.1, b.1) so ++ (wAx G x tx ++ (wAx G y ty))) H locs := hw
  have hp_2 : iN i < so.1 := exIn_lt (by omega) n_2
  refine lv_iload_n hx hb dX4_hint_5 rfl (lv_at hl 2 rfl) ?_
  have hwc : wW G A9 s9.heap (([] : va_W) ++ (([] : va_W) ++ (wOb G (o, x.1, y.1, r.1, b.1) so ++ (wAx G x tx ++ (wAx G y ty))))) H locs := hw
  refine x_callv (u := ([] : va_W)) (w := ([] : va_W)) (v := wOb G (o, x.1, y.1, r.1, b.1) so ++ (wAx G x tx ++ (wAx G y ty))) (vx_runS (As := [.int u]) (rest := []) ⟨hx, hb, hml, hown, hts⟩ (c_reqReach l G hst X u H.size) (va_cwS 1 hts gX4_hint_X4_requireReach rfl rfl rfl (by decide +kernel) ⟨Nat.le_of_ble_eq_true rfl, Nat.le_of_ble_eq_true rfl⟩) (x_preS hK hF hA hwc) rfl rfl hl.1 rfl (lv_room (Nat.le_of_ble_eq_true rfl)) dX4_hint_6 ⟨Nat.le_of_ble_eq_true rfl, Nat.le_of_ble_eq_true rfl⟩) hwc hA rfl rfl htab hlocks hK (fun E hE => by simp only [exHint, xo, hE, n_2]) rfl (Nat.le_of_ble_eq_true rfl) (Nat.le_of_ble_eq_true rfl) (fun n_6 H locs hw => ?_)
  have n_6 : exReach u = none := n_6
  have hw : wW G A9 s9.heap (wOb G (o, x.1, y.1, r.1, b.1) so ++ (wAx G x tx ++ (wAx G y ty))) H locs := hw
  refine lv_iload_n hx hb dX4_hint_9 rfl (lv_at hl 3 rfl) ?_
  have hwc : wW G A9 s9.heap (([] : va_W) ++ (([] : va_W) ++ (wOb G (o, x.1, y.1, r.1, b.1) so ++ (wAx G x tx ++ (wAx G y ty))))) H locs := hw
  refine x_callv (u := ([] : va_W)) (w := ([] : va_W)) (v := wOb G (o, x.1, y.1, r.1, b.1) so ++ (wAx G x tx ++ (wAx G y ty))) (vx_runS (As := [.int v]) (rest := []) ⟨hx, hb, hml, hown, hts⟩ (c_reqReach l G hst X v H.size) (va_cwS 1 hts gX4_hint_X4_requireReach rfl rfl rfl (by decide +kernel) ⟨Nat.le_of_ble_eq_true rfl, Nat.le_of_ble_eq_true rfl⟩) (x_preS hK hF hA hwc) rfl rfl hl.1 rfl (lv_room (Nat.le_of_ble_eq_true rfl)) dX4_hint_10 ⟨Nat.le_of_ble_eq_true rfl, Nat.le_of_ble_eq_true rfl⟩) hwc hA rfl rfl htab hlocks hK (fun E hE => by simp only [exHint, xo, hE, n_2, n_6]) rfl (Nat.le_of_ble_eq_true rfl) (Nat.le_of_ble_eq_true rfl) (fun n_10 H locs hw => ?_)
  have n_10 : exReach v = none := n_10
  have hw : wW G A9 s9.heap (wOb G (o, x.1, y.1, r.1, b.1) so ++ (wAx G x tx ++ (wAx G y ty))) H locs := hw
  refine lv_aload_n hx hb dX4_hint_13 rfl (lv_at hl 0 rfl) ?_
  refine lv_iload_n hx hb dX4_hint_14 rfl (lv_at hl 1 rfl) ?_
  refine r_top (y := nI (iN i)) (nI_iN _) ?_
  refine lv_iload_n hx hb dX4_hint_15 rfl (lv_at hl 2 rfl) ?_
  refine lv_iload_n hx hb dX4_hint_16 rfl (lv_at hl 3 rfl) ?_
  have hwc : wW G A9 s9.heap (([] : va_W) ++ ((wOb G (o, x.1, y.1, r.1, b.1) so ++ (wAx G x tx ++ (wAx G y ty))) ++ ([] : va_W))) H locs := hw
  refine r_callv (u := ([] : va_W)) (w := wOb G (o, x.1, y.1, r.1, b.1) so ++ (wAx G x tx ++ (wAx G y ty))) (v := ([] : va_W)) (va_runV (As := [.int (nI (iN i)), .int u, .int v]) (rest := []) ⟨hx, hb, hml, hown, hts⟩ (c_moveHint l G so x tx y ty o r b (iN i) u v (by first | assumption | omega | decide) H.size) (cwV 3 hts gX4_hint_X4_moveHint rfl rfl rfl (by decide +kernel) ⟨Nat.le_of_ble_eq_true rfl, Nat.le_of_ble_eq_true rfl⟩) (r_preV (ci := 4) (q0 := 0) hK hwc rfl rfl rfl) rfl rfl hl.1 rfl (lv_room (Nat.le_of_ble_eq_true rfl)) dX4_hint_17 ⟨Nat.le_of_ble_eq_true rfl, Nat.le_of_ble_eq_true rfl⟩) hwc hA rfl rfl (fun H locs hw => ?_)
  have hw : wW G A9 s9.heap (wOb G (o, x.1, y.1, r.1, b.1) (so.1, 0) ++ (wAx G x ((upd tx.1 (iN i) u), tx.2.1, tx.2.2.1, tx.2.2.2) ++ (wAx G y ((upd ty.1 (iN i) v), ty.2.1, ty.2.2.1, ty.2.2.2)))) H locs := hw
  exact x_vret hx hb hr hlocks hK hw (Nat.le_of_ble_eq_true rfl) (Nat.le_of_ble_eq_true rfl) dX4_hint_20 (by simp only [exHint, xo, n_2, n_6, n_10]) rfl

theorem wiX4_wish_wish_X3 : ∀ w ∈ wsX30, w ∈ wsX4_wish := by decide +kernel
theorem wiX4_wish_wish_X4 : ∀ w ∈ wsX40, w ∈ wsX4_wish := by decide +kernel
theorem wmX4_wish_wish_0 : Cond.classLink RX4 55 "java/lang/IllegalArgumentException" ∈ wsX4_wish := by decide +kernel
theorem wmX4_wish_wish_1 : Cond.initialized "java/lang/IllegalArgumentException" ∈ wsX4_wish := by decide +kernel
theorem wmX4_wish_wish_2 : Cond.fieldLink RX4 22 "PartSketch" "rows" "LPartSketch$WishRows;" ∈ wsX4_wish := by decide +kernel
theorem wmX4_wish_wish_3 : Cond.fieldLink RX4 62 "PartSketch$WishRows" "count" "I" ∈ wsX4_wish := by decide +kernel
theorem wmX4_wish_wish_4 : Cond.fieldLink RX4 67 "PartSketch" "settled" "Z" ∈ wsX4_wish := by decide +kernel
theorem wmX4_wish_wish_5 : Cond.classLink RX4 41 "java/lang/IllegalStateException" ∈ wsX4_wish := by decide +kernel
theorem wmX4_wish_wish_6 : Cond.initialized "java/lang/IllegalStateException" ∈ wsX4_wish := by decide +kernel
theorem wxX4_wish_wish_A : ∀ w ∈ (vx_atS RX4 59 "java/lang/IllegalArgumentException" ["java/lang/RuntimeException", "java/lang/Exception"]).filter goodWord, w ∈ wsX4_wish := by
  intro w h
  simp only [wsX4_wish, List.mem_cons, List.mem_append, h, or_true, true_or]
theorem wxX4_wish_wish_S : ∀ w ∈ (vx_atS RX4 45 "java/lang/IllegalStateException" ["java/lang/RuntimeException", "java/lang/Exception"]).filter goodWord, w ∈ wsX4_wish := by
  intro w h
  simp only [wsX4_wish, List.mem_cons, List.mem_append, h, or_true, true_or]
set_option maxHeartbeats 4000000 in
set_option maxRecDepth 100000 in
/-- wish -/
theorem c_wish (l : Launch) (G : gT) (hst : l.stackTraces = false) (X : Nat → Nat) (r : aRw) (rs : tRw) (so : tOb) (o : Nat) (x : aAx) (y : aAx) (b : aBd) (k : Int32) (i : Int32) (j : Int32) (d : Int32) (hok : skOk so rs) (sz : Nat) : XI l yX4_wish wsX4_wish ({ frames := 7, cells := 4, slots := 24, locals := 111 }) G X [.ref o, .int k, .int i, .int j, .int d] (wRw G r rs ++ (wOb G (o, x.1, y.1, r.1, b.1) so)) (wRw G r (rwWish rs k i j d) ++ (wOb G (o, x.1, y.1, r.1, b.1) (so.1, 0))) sz (exWish so.1 rs.1 k i j d) (nI rs.1) 4 24 := by
  have hok0 := hok
  obtain ⟨hnp, hct, hon⟩ := hok
  refine x_of (Qc := fun A9 => (va_Qi (fun (r9 : Int32) (_ : Unit) => (exWish so.1 rs.1 k i j d) = none ∧ r9 = (nI rs.1)) (fun _ t9 => wPost G A9 (wRw G r (rwWish rs k i j d) ++ (wOb G (o, x.1, y.1, r.1, b.1) (so.1, 0))) t9) A9)) (XC := fun A9 => (xC G A9 (wRw G r rs ++ (wOb G (o, x.1, y.1, r.1, b.1) so)) (exWish so.1 rs.1 k i j d))) (cc := cX4_wish) (maxL := 5) (ret := (some .int)) (by decide) rfl (Nat.le_of_ble_eq_true rfl) ?_
  intro p9 e9 s9 m9 A9 be9 mt9 c9 H locs ls hx hb hr hts hown hlocks hin hml htab hK hA hF hw hl
  have hl : lv_has ls 5 [(0, .ref o), (1, .int k), (2, .int i), (3, .int j), (4, .int d)] := hl
  refine lv_iload_n hx hb dX4_wish_0 rfl (lv_at hl 1 rfl) ?_
  refine lv_if_lt (tgt := 9) hx hb dX4_wish_1 (by decide) (fun c_1 => ?_) (fun c_1 => ?_)
  · exact x_throw (text := "the kind is not from 0 to 2") hx hb hst hown (by decide +kernel) (hts _ wmX4_wish_wish_0) (hts _ wmX4_wish_wish_1) (by decide +kernel) (fun w h => hts w (wxX4_wish_wish_A w h)) xbA xgA hF hK hw (hl.1.trans hml.symm) dX4_wish_9 dX4_wish_12 dX4_wish_13 dX4_wish_15 dX4_wish_18 htab (Nat.le_of_ble_eq_true rfl) (Nat.le_of_ble_eq_true rfl) (Nat.le_of_ble_eq_true rfl) (Nat.le_of_ble_eq_true rfl) hlocks (by simp only [exWish, xo, if_pos c_1]) rfl (Nat.le_of_ble_eq_true rfl) (Nat.le_of_ble_eq_true rfl)
  · refine lv_iload_n hx hb dX4_wish_4 rfl (lv_at hl 1 rfl) ?_
    refine lv_iconst (v := 2) hx hb dX4_wish_5 (by decide) ?_
    refine lv_icmp_le (tgt := 19) hx hb dX4_wish_6 (by decide) (fun c_6 => ?_) (fun c_6 => ?_)
    · refine lv_iload_n hx hb dX4_wish_19 rfl (lv_at hl 1 rfl) ?_
      refine lv_iconst (v := 2) hx hb dX4_wish_20 (by decide) ?_
      refine lv_icmp_eq (tgt := 44) hx hb dX4_wish_21 (by decide) (fun c_21 => ?_) (fun c_21 => ?_)
      · refine lv_aload_n hx hb dX4_wish_44 rfl (lv_at hl 0 rfl) ?_
        refine lv_iload_n hx hb dX4_wish_45 rfl (lv_at hl 2 rfl) ?_
        have hwc : wW G A9 s9.heap ((wRw G r rs) ++ ((wOb G (o, x.1, y.1, r.1, b.1) so) ++ ([] : va_W))) H locs := hw
        refine x_callv (u := wRw G r rs) (w := wOb G (o, x.1, y.1, r.1, b.1) so) (v := ([] : va_W)) (vx_runV (As := [.int i]) (rest := []) ⟨hx, hb, hml, hown, hts⟩ (c_reqPoint l G hst X so o r x y b i H.size) (cwV 1 hts gX4_wish_X4_requirePoint rfl rfl rfl (by decide +kernel) ⟨Nat.le_of_ble_eq_true rfl, Nat.le_of_ble_eq_true rfl⟩) (x_preV (ci := 4) (q0 := 11) hK hF hA hwc rfl rfl rfl) rfl rfl hl.1 rfl (lv_room (Nat.le_of_ble_eq_true rfl)) dX4_wish_46 ⟨Nat.le_of_ble_eq_true rfl, Nat.le_of_ble_eq_true rfl⟩) hwc hA rfl rfl htab hlocks hK (fun E hE => by simp only [exWish, xo, hE, if_neg c_1, if_pos c_6, if_pos c_21]) rfl (Nat.le_of_ble_eq_true rfl) (Nat.le_of_ble_eq_true rfl) (fun n_46 H locs hw => ?_)
        have n_46 : exIn so.1 i = none := n_46
        have hw : wW G A9 s9.heap (wRw G r rs ++ (wOb G (o, x.1, y.1, r.1, b.1) so)) H locs := hw
        have hp_46 : iN i < so.1 := exIn_lt (by omega) n_46
        refine lv_iload_n hx hb dX4_wish_49 rfl (lv_at hl 1 rfl) ?_
        refine lv_iconst (v := 2) hx hb dX4_wish_50 (by decide) ?_
        refine lv_icmp_eq (tgt := 59) hx hb dX4_wish_51 (by decide) (fun c_51 => ?_) (fun c_51 => ?_)
        · refine lv_aload_n hx hb dX4_wish_59 rfl (lv_at hl 0 rfl) ?_
          refine r_get (ci := 4) (v := .ref r.1) (C := RX4) (T := TX4) (N := 6) hx hb hts wiX4_wish_wish_X4 hown hK hw 11 rfl rfl 2 (by decide) wmX4_wish_wish_2 (fun _ h9 => h9) rfl dX4_wish_60 ?_
          refine r_get (ci := 3) (v := .int (nI rs.1)) (C := RX3) (T := TX3) (N := 7) hx hb hts wiX4_wish_wish_X3 hown hK hw 0 rfl rfl 0 (by decide) wmX4_wish_wish_3 (fun _ h9 => h9) rfl dX4_wish_63 ?_
          refine lv_bipush (v := 40) hx hb dX4_wish_66 (by decide) ?_
          refine lv_icmp_lt (tgt := 81) hx hb dX4_wish_68 (by decide) (fun c_68 => ?_) (fun c_68 => ?_)
          · have h40 : rs.1 < 40 := x_lt (b := 40) (by omega) (by decide) c_68
            refine lv_aload_n hx hb dX4_wish_81 rfl (lv_at hl 0 rfl) ?_
            refine lv_iconst (v := 0) hx hb dX4_wish_82 (by decide) ?_
            refine r_put (ci := 4) (v := .int 0) (ty := .boolean) (C := RX4) (T := TX4) (N := 6) hx hb hts wiX4_wish_wish_X4 tyX4 tyX4_ok nmX4 hown hK hw 11 rfl rfl 5 (by decide) wmX4_wish_wish_4 (fun _ h9 => h9) rfl (by decide +kernel) (by rfl) (by rfl) (Nat.le_of_ble_eq_true rfl) dX4_wish_83 (ws' := wRw G r rs ++ (wOb G (o, x.1, y.1, r.1, b.1) (so.1, 0))) rfl (fun H locs hw => ?_)
            refine lv_iload_n hx hb dX4_wish_86 rfl (lv_at hl 1 rfl) ?_
            refine lv_iconst (v := 2) hx hb dX4_wish_87 (by decide) ?_
            refine lv_icmp_ne (tgt := 105) hx hb dX4_wish_88 (by decide) (fun c_88 => ?_) (fun c_88 => ?_)
            · exact absurd c_21 c_88
            · refine lv_aload_n hx hb dX4_wish_91 rfl (lv_at hl 0 rfl) ?_
              refine r_get (ci := 4) (v := .ref r.1) (C := RX4) (T := TX4) (N := 6) hx hb hts wiX4_wish_wish_X4 hown hK hw 11 rfl rfl 2 (by decide) wmX4_wish_wish_2 (fun _ h9 => h9) rfl dX4_wish_92 ?_
              refine lv_iload_n hx hb dX4_wish_95 rfl (lv_at hl 1 rfl) ?_
              refine lv_iload_n hx hb dX4_wish_96 rfl (lv_at hl 2 rfl) ?_
              refine r_top (y := nI (iN i)) (nI_iN _) ?_
              refine lv_iload_n hx hb dX4_wish_97 rfl (lv_at hl 2 rfl) ?_
              refine r_top (y := nI (iN i)) (nI_iN _) ?_
              refine lv_iconst (v := 0) hx hb dX4_wish_98 (by decide) ?_
              have hwc : wW G A9 s9.heap (([] : va_W) ++ ((wRw G r rs) ++ (wOb G (o, x.1, y.1, r.1, b.1) (so.1, 0)))) H locs := hw
              refine r_calli (res := (nI rs.1)) (u := ([] : va_W)) (w := wRw G r rs) (v := wOb G (o, x.1, y.1, r.1, b.1) (so.1, 0)) (va_runV (As := [.int k, .int (nI (iN i)), .int (nI (iN i)), .int 0]) (rest := []) ⟨hx, hb, hml, hown, hts⟩ (c_append l G r rs k (iN i) (iN i) 0 (by first | assumption | omega | decide) H.size) (cwV 4 hts gX4_wish_X3_append rfl rfl rfl (by decide +kernel) ⟨Nat.le_of_ble_eq_true rfl, Nat.le_of_ble_eq_true rfl⟩) (r_preV (ci := 3) (q0 := 0) hK hwc rfl rfl rfl) rfl rfl hl.1 rfl (lv_room (Nat.le_of_ble_eq_true rfl)) dX4_wish_99 ⟨Nat.le_of_ble_eq_true rfl, Nat.le_of_ble_eq_true rfl⟩) hwc hA rfl rfl (fun H locs hw => ?_)
              have hw : wW G A9 s9.heap (wRw G r (rwApp rs k (iN i) (iN i) 0) ++ (wOb G (o, x.1, y.1, r.1, b.1) (so.1, 0))) H locs := hw
              refine lv_goto (tgt := 117) hx hb dX4_wish_102 (by decide) ?_
              exact x_iret hx hb hr hlocks hK hw (Nat.le_of_ble_eq_true rfl) (Nat.le_of_ble_eq_true rfl) dX4_wish_117 (by simp only [exWish, xo, n_46, if_neg c_1, if_pos c_6, if_pos c_21, if_pos c_51, if_pos c_68, if_pos c_88]) (show (nI rs.1 : Int32) = nI rs.1 by rfl) (show wRw G r (rwApp rs k (iN i) (iN i) 0) ++ (wOb G (o, x.1, y.1, r.1, b.1) (so.1, 0)) = wRw G r (rwWish rs k i j d) ++ (wOb G (o, x.1, y.1, r.1, b.1) (so.1, 0)) by simp only [rwWish, if_pos c_21])
          · exact x_throw (text := "there are 40 wishes") hx hb hst hown (by decide +kernel) (hts _ wmX4_wish_wish_5) (hts _ wmX4_wish_wish_6) (by decide +kernel) (fun w h => hts w (wxX4_wish_wish_S w h)) xbS xgS hF hK hw (hl.1.trans hml.symm) dX4_wish_71 dX4_wish_74 dX4_wish_75 dX4_wish_77 dX4_wish_80 htab (Nat.le_of_ble_eq_true rfl) (Nat.le_of_ble_eq_true rfl) (Nat.le_of_ble_eq_true rfl) (Nat.le_of_ble_eq_true rfl) hlocks (by simp only [exWish, xo, n_46, if_neg c_1, if_pos c_6, if_pos c_21, if_pos c_51, if_neg c_68]) rfl (Nat.le_of_ble_eq_true rfl) (Nat.le_of_ble_eq_true rfl)
        · exact absurd c_21 c_51
      · refine lv_iload hx hb dX4_wish_24 (lv_at hl 4 rfl) ?_
        have hwc : wW G A9 s9.heap (([] : va_W) ++ (([] : va_W) ++ (wRw G r rs ++ (wOb G (o, x.1, y.1, r.1, b.1) so)))) H locs := hw
        refine x_callv (u := ([] : va_W)) (w := ([] : va_W)) (v := wRw G r rs ++ (wOb G (o, x.1, y.1, r.1, b.1) so)) (vx_runS (As := [.int d]) (rest := []) ⟨hx, hb, hml, hown, hts⟩ (c_reqReach l G hst X d H.size) (va_cwS 1 hts gX4_wish_X4_requireReach rfl rfl rfl (by decide +kernel) ⟨Nat.le_of_ble_eq_true rfl, Nat.le_of_ble_eq_true rfl⟩) (x_preS hK hF hA hwc) rfl rfl hl.1 rfl (lv_room (Nat.le_of_ble_eq_true rfl)) dX4_wish_26 ⟨Nat.le_of_ble_eq_true rfl, Nat.le_of_ble_eq_true rfl⟩) hwc hA rfl rfl htab hlocks hK (fun E hE => by simp only [exWish, xo, hE, if_neg c_1, if_pos c_6, if_neg c_21]) rfl (Nat.le_of_ble_eq_true rfl) (Nat.le_of_ble_eq_true rfl) (fun n_26 H locs hw => ?_)
        have n_26 : exReach d = none := n_26
        have hw : wW G A9 s9.heap (wRw G r rs ++ (wOb G (o, x.1, y.1, r.1, b.1) so)) H locs := hw
        refine lv_iload_n hx hb dX4_wish_29 rfl (lv_at hl 2 rfl) ?_
        refine lv_iload_n hx hb dX4_wish_30 rfl (lv_at hl 3 rfl) ?_
        refine lv_icmp_ne (tgt := 44) hx hb dX4_wish_31 (by decide) (fun c_31 => ?_) (fun c_31 => ?_)
        · refine lv_aload_n hx hb dX4_wish_44 rfl (lv_at hl 0 rfl) ?_
          refine lv_iload_n hx hb dX4_wish_45 rfl (lv_at hl 2 rfl) ?_
          have hwc : wW G A9 s9.heap ((wRw G r rs) ++ ((wOb G (o, x.1, y.1, r.1, b.1) so) ++ ([] : va_W))) H locs := hw
          refine x_callv (u := wRw G r rs) (w := wOb G (o, x.1, y.1, r.1, b.1) so) (v := ([] : va_W)) (vx_runV (As := [.int i]) (rest := []) ⟨hx, hb, hml, hown, hts⟩ (c_reqPoint l G hst X so o r x y b i H.size) (cwV 1 hts gX4_wish_X4_requirePoint rfl rfl rfl (by decide +kernel) ⟨Nat.le_of_ble_eq_true rfl, Nat.le_of_ble_eq_true rfl⟩) (x_preV (ci := 4) (q0 := 11) hK hF hA hwc rfl rfl rfl) rfl rfl hl.1 rfl (lv_room (Nat.le_of_ble_eq_true rfl)) dX4_wish_46 ⟨Nat.le_of_ble_eq_true rfl, Nat.le_of_ble_eq_true rfl⟩) hwc hA rfl rfl htab hlocks hK (fun E hE => by simp only [exWish, xo, hE, n_26, if_neg c_1, if_pos c_6, if_neg c_21, if_neg c_31]) rfl (Nat.le_of_ble_eq_true rfl) (Nat.le_of_ble_eq_true rfl) (fun n_46 H locs hw => ?_)
          have n_46 : exIn so.1 i = none := n_46
          have hw : wW G A9 s9.heap (wRw G r rs ++ (wOb G (o, x.1, y.1, r.1, b.1) so)) H locs := hw
          have hp_46 : iN i < so.1 := exIn_lt (by omega) n_46
          refine lv_iload_n hx hb dX4_wish_49 rfl (lv_at hl 1 rfl) ?_
          refine lv_iconst (v := 2) hx hb dX4_wish_50 (by decide) ?_
          refine lv_icmp_eq (tgt := 59) hx hb dX4_wish_51 (by decide) (fun c_51 => ?_) (fun c_51 => ?_)
          · exact absurd c_51 c_21
          · refine lv_aload_n hx hb dX4_wish_54 rfl (lv_at hl 0 rfl) ?_
            refine lv_iload_n hx hb dX4_wish_55 rfl (lv_at hl 3 rfl) ?_
            have hwc : wW G A9 s9.heap ((wRw G r rs) ++ ((wOb G (o, x.1, y.1, r.1, b.1) so) ++ ([] : va_W))) H locs := hw
            refine x_callv (u := wRw G r rs) (w := wOb G (o, x.1, y.1, r.1, b.1) so) (v := ([] : va_W)) (vx_runV (As := [.int j]) (rest := []) ⟨hx, hb, hml, hown, hts⟩ (c_reqPoint l G hst X so o r x y b j H.size) (cwV 1 hts gX4_wish_X4_requirePoint rfl rfl rfl (by decide +kernel) ⟨Nat.le_of_ble_eq_true rfl, Nat.le_of_ble_eq_true rfl⟩) (x_preV (ci := 4) (q0 := 11) hK hF hA hwc rfl rfl rfl) rfl rfl hl.1 rfl (lv_room (Nat.le_of_ble_eq_true rfl)) dX4_wish_56 ⟨Nat.le_of_ble_eq_true rfl, Nat.le_of_ble_eq_true rfl⟩) hwc hA rfl rfl htab hlocks hK (fun E hE => by simp only [exWish, xo, hE, n_26, n_46, if_neg c_1, if_pos c_6, if_neg c_21, if_neg c_31, if_neg c_51]) rfl (Nat.le_of_ble_eq_true rfl) (Nat.le_of_ble_eq_true rfl) (fun n_56 H locs hw => ?_)
            have n_56 : exIn so.1 j = none := n_56
            have hw : wW G A9 s9.heap (wRw G r rs ++ (wOb G (o, x.1, y.1, r.1, b.1) so)) H locs := hw
            have hp_56 : iN j < so.1 := exIn_lt (by omega) n_56
            refine lv_aload_n hx hb dX4_wish_59 rfl (lv_at hl 0 rfl) ?_
            refine r_get (ci := 4) (v := .ref r.1) (C := RX4) (T := TX4) (N := 6) hx hb hts wiX4_wish_wish_X4 hown hK hw 11 rfl rfl 2 (by decide) wmX4_wish_wish_2 (fun _ h9 => h9) rfl dX4_wish_60 ?_
            refine r_get (ci := 3) (v := .int (nI rs.1)) (C := RX3) (T := TX3) (N := 7) hx hb hts wiX4_wish_wish_X3 hown hK hw 0 rfl rfl 0 (by decide) wmX4_wish_wish_3 (fun _ h9 => h9) rfl dX4_wish_63 ?_
            refine lv_bipush (v := 40) hx hb dX4_wish_66 (by decide) ?_
            refine lv_icmp_lt (tgt := 81) hx hb dX4_wish_68 (by decide) (fun c_68 => ?_) (fun c_68 => ?_)
            · have h40 : rs.1 < 40 := x_lt (b := 40) (by omega) (by decide) c_68
              refine lv_aload_n hx hb dX4_wish_81 rfl (lv_at hl 0 rfl) ?_
              refine lv_iconst (v := 0) hx hb dX4_wish_82 (by decide) ?_
              refine r_put (ci := 4) (v := .int 0) (ty := .boolean) (C := RX4) (T := TX4) (N := 6) hx hb hts wiX4_wish_wish_X4 tyX4 tyX4_ok nmX4 hown hK hw 11 rfl rfl 5 (by decide) wmX4_wish_wish_4 (fun _ h9 => h9) rfl (by decide +kernel) (by rfl) (by rfl) (Nat.le_of_ble_eq_true rfl) dX4_wish_83 (ws' := wRw G r rs ++ (wOb G (o, x.1, y.1, r.1, b.1) (so.1, 0))) rfl (fun H locs hw => ?_)
              refine lv_iload_n hx hb dX4_wish_86 rfl (lv_at hl 1 rfl) ?_
              refine lv_iconst (v := 2) hx hb dX4_wish_87 (by decide) ?_
              refine lv_icmp_ne (tgt := 105) hx hb dX4_wish_88 (by decide) (fun c_88 => ?_) (fun c_88 => ?_)
              · refine lv_aload_n hx hb dX4_wish_105 rfl (lv_at hl 0 rfl) ?_
                refine r_get (ci := 4) (v := .ref r.1) (C := RX4) (T := TX4) (N := 6) hx hb hts wiX4_wish_wish_X4 hown hK hw 11 rfl rfl 2 (by decide) wmX4_wish_wish_2 (fun _ h9 => h9) rfl dX4_wish_106 ?_
                refine lv_iload_n hx hb dX4_wish_109 rfl (lv_at hl 1 rfl) ?_
                refine lv_iload_n hx hb dX4_wish_110 rfl (lv_at hl 2 rfl) ?_
                refine r_top (y := nI (iN i)) (nI_iN _) ?_
                refine lv_iload_n hx hb dX4_wish_111 rfl (lv_at hl 3 rfl) ?_
                refine r_top (y := nI (iN j)) (nI_iN _) ?_
                refine lv_iload hx hb dX4_wish_112 (lv_at hl 4 rfl) ?_
                have hwc : wW G A9 s9.heap (([] : va_W) ++ ((wRw G r rs) ++ (wOb G (o, x.1, y.1, r.1, b.1) (so.1, 0)))) H locs := hw
                refine r_calli (res := (nI rs.1)) (u := ([] : va_W)) (w := wRw G r rs) (v := wOb G (o, x.1, y.1, r.1, b.1) (so.1, 0)) (va_runV (As := [.int k, .int (nI (iN i)), .int (nI (iN j)), .int d]) (rest := []) ⟨hx, hb, hml, hown, hts⟩ (c_append l G r rs k (iN i) (iN j) d (by first | assumption | omega | decide) H.size) (cwV 4 hts gX4_wish_X3_append rfl rfl rfl (by decide +kernel) ⟨Nat.le_of_ble_eq_true rfl, Nat.le_of_ble_eq_true rfl⟩) (r_preV (ci := 3) (q0 := 0) hK hwc rfl rfl rfl) rfl rfl hl.1 rfl (lv_room (Nat.le_of_ble_eq_true rfl)) dX4_wish_114 ⟨Nat.le_of_ble_eq_true rfl, Nat.le_of_ble_eq_true rfl⟩) hwc hA rfl rfl (fun H locs hw => ?_)
                have hw : wW G A9 s9.heap (wRw G r (rwApp rs k (iN i) (iN j) d) ++ (wOb G (o, x.1, y.1, r.1, b.1) (so.1, 0))) H locs := hw
                exact x_iret hx hb hr hlocks hK hw (Nat.le_of_ble_eq_true rfl) (Nat.le_of_ble_eq_true rfl) dX4_wish_117 (by simp only [exWish, xo, n_26, n_46, n_56, if_neg c_1, if_pos c_6, if_neg c_21, if_neg c_31, if_neg c_51, if_pos c_68, if_neg c_88]) (show (nI rs.1 : Int32) = nI rs.1 by rfl) (show wRw G r (rwApp rs k (iN i) (iN j) d) ++ (wOb G (o, x.1, y.1, r.1, b.1) (so.1, 0)) = wRw G r (rwWish rs k i j d) ++ (wOb G (o, x.1, y.1, r.1, b.1) (so.1, 0)) by simp only [rwWish, if_neg c_21])
              · exact absurd c_88 c_21
            · exact x_throw (text := "there are 40 wishes") hx hb hst hown (by decide +kernel) (hts _ wmX4_wish_wish_5) (hts _ wmX4_wish_wish_6) (by decide +kernel) (fun w h => hts w (wxX4_wish_wish_S w h)) xbS xgS hF hK hw (hl.1.trans hml.symm) dX4_wish_71 dX4_wish_74 dX4_wish_75 dX4_wish_77 dX4_wish_80 htab (Nat.le_of_ble_eq_true rfl) (Nat.le_of_ble_eq_true rfl) (Nat.le_of_ble_eq_true rfl) (Nat.le_of_ble_eq_true rfl) hlocks (by simp only [exWish, xo, n_26, n_46, n_56, if_neg c_1, if_pos c_6, if_neg c_21, if_neg c_31, if_neg c_51, if_neg c_68]) rfl (Nat.le_of_ble_eq_true rfl) (Nat.le_of_ble_eq_true rfl)
        · exact x_throw (text := "one and other are the same point") hx hb hst hown (by decide +kernel) (hts _ wmX4_wish_wish_0) (hts _ wmX4_wish_wish_1) (by decide +kernel) (fun w h => hts w (wxX4_wish_wish_A w h)) xbA xgA hF hK hw (hl.1.trans hml.symm) dX4_wish_34 dX4_wish_37 dX4_wish_38 dX4_wish_40 dX4_wish_43 htab (Nat.le_of_ble_eq_true rfl) (Nat.le_of_ble_eq_true rfl) (Nat.le_of_ble_eq_true rfl) (Nat.le_of_ble_eq_true rfl) hlocks (by simp only [exWish, xo, n_26, if_neg c_1, if_pos c_6, if_neg c_21, if_pos c_31]) rfl (Nat.le_of_ble_eq_true rfl) (Nat.le_of_ble_eq_true rfl)
    · exact x_throw (text := "the kind is not from 0 to 2") hx hb hst hown (by decide +kernel) (hts _ wmX4_wish_wish_0) (hts _ wmX4_wish_wish_1) (by decide +kernel) (fun w h => hts w (wxX4_wish_wish_A w h)) xbA xgA hF hK hw (hl.1.trans hml.symm) dX4_wish_9 dX4_wish_12 dX4_wish_13 dX4_wish_15 dX4_wish_18 htab (Nat.le_of_ble_eq_true rfl) (Nat.le_of_ble_eq_true rfl) (Nat.le_of_ble_eq_true rfl) (Nat.le_of_ble_eq_true rfl) hlocks (by simp only [exWish, xo, if_neg c_1, if_neg c_6]) rfl (Nat.le_of_ble_eq_true rfl) (Nat.le_of_ble_eq_true rfl)

theorem wiX4_remove_remove_X3 : ∀ w ∈ wsX30, w ∈ wsX4_remove := by decide +kernel
theorem wiX4_remove_remove_X4 : ∀ w ∈ wsX40, w ∈ wsX4_remove := by decide +kernel
theorem wmX4_remove_remove_0 : Cond.fieldLink RX4 22 "PartSketch" "rows" "LPartSketch$WishRows;" ∈ wsX4_remove := by decide +kernel
theorem wmX4_remove_remove_1 : Cond.fieldLink RX4 81 "PartSketch$WishRows" "state" "[I" ∈ wsX4_remove := by decide +kernel
theorem wmX4_remove_remove_2 : Cond.fieldLink RX4 67 "PartSketch" "settled" "Z" ∈ wsX4_remove := by decide +kernel
set_option maxHeartbeats 4000000 in
set_option maxRecDepth 100000 in
/-- remove -/
theorem c_remove (l : Launch) (G : gT) (hst : l.stackTraces = false) (X : Nat → Nat) (r : aRw) (rs : tRw) (so : tOb) (x : aAx) (tx : tAx) (y : aAx) (ty : tAx) (o : Nat) (b : aBd) (i : Int32) (hok : skOk so rs) (sz : Nat) : XI l yX4_remove wsX4_remove ({ frames := 7, cells := 1, slots := 6, locals := 111 }) G X [.ref o, .int i] (wRw G r rs ++ (wOb G (o, x.1, y.1, r.1, b.1) so ++ (wAx G x tx ++ (wAx G y ty)))) (wRw G r (rwDrop (rwSt rs (skS so rs tx ty)) (iN i)) ++ (wOb G (o, x.1, y.1, r.1, b.1) (so.1, 0) ++ (wAx G x (skX so rs tx ty) ++ (wAx G y (skY so rs tx ty))))) sz (exIn rs.1 i) (skS so rs tx ty (iN i)) 1 6 := by
  have hok0 := hok
  obtain ⟨hnp, hct, hon⟩ := hok
  refine x_of (Qc := fun A9 => (va_Qi (fun (r9 : Int32) (_ : Unit) => (exIn rs.1 i) = none ∧ r9 = (skS so rs tx ty (iN i))) (fun _ t9 => wPost G A9 (wRw G r (rwDrop (rwSt rs (skS so rs tx ty)) (iN i)) ++ (wOb G (o, x.1, y.1, r.1, b.1) (so.1, 0) ++ (wAx G x (skX so rs tx ty) ++ (wAx G y (skY so rs tx ty))))) t9) A9)) (XC := fun A9 => (xC G A9 (wRw G r rs ++ (wOb G (o, x.1, y.1, r.1, b.1) so ++ (wAx G x tx ++ (wAx G y ty)))) (exIn rs.1 i))) (cc := cX4_remove) (maxL := 3) (ret := (some .int)) (by decide) rfl (Nat.le_of_ble_eq_true rfl) ?_
  intro p9 e9 s9 m9 A9 be9 mt9 c9 H locs ls hx hb hr hts hown hlocks hin hml htab hK hA hF hw hl
  have hl : lv_has ls 3 [(0, .ref o), (1, .int i)] := hl
  refine lv_aload_n hx hb dX4_remove_0 rfl (lv_at hl 0 rfl) ?_
  refine lv_iload_n hx hb dX4_remove_1 rfl (lv_at hl 1 rfl) ?_
  have hwc : wW G A9 s9.heap (([] : va_W) ++ ((wRw G r rs ++ (wOb G (o, x.1, y.1, r.1, b.1) so)) ++ (wAx G x tx ++ (wAx G y ty)))) H locs := hw
  refine x_callv (u := ([] : va_W)) (w := wRw G r rs ++ (wOb G (o, x.1, y.1, r.1, b.1) so)) (v := wAx G x tx ++ (wAx G y ty)) (vx_runV (As := [.int i]) (rest := []) ⟨hx, hb, hml, hown, hts⟩ (c_reqWish l G hst X r rs so o x y b i H.size) (cwV 1 hts gX4_remove_X4_requireWish rfl rfl rfl (by decide +kernel) ⟨Nat.le_of_ble_eq_true rfl, Nat.le_of_ble_eq_true rfl⟩) (x_preV (ci := 4) (q0 := 11) hK hF hA hwc rfl rfl rfl) rfl rfl hl.1 rfl (lv_room (Nat.le_of_ble_eq_true rfl)) dX4_remove_2 ⟨Nat.le_of_ble_eq_true rfl, Nat.le_of_ble_eq_true rfl⟩) hwc hA rfl rfl htab hlocks hK (fun E hE => by simp only [xo, hE]) rfl (Nat.le_of_ble_eq_true rfl) (Nat.le_of_ble_eq_true rfl) (fun n_2 H locs hw => ?_)
  have n_2 : exIn rs.1 i = none := n_2
  have hw : wW G A9 s9.heap (wRw G r rs ++ (wOb G (o, x.1, y.1, r.1, b.1) so ++ (wAx G x tx ++ (wAx G y ty)))) H locs := hw
  have hp_2 : iN i < rs.1 := exIn_lt (by omega) n_2
  refine lv_aload_n hx hb dX4_remove_5 rfl (lv_at hl 0 rfl) ?_
  have hwc : wW G A9 s9.heap (([] : va_W) ++ ((wRw G r rs ++ (wOb G (o, x.1, y.1, r.1, b.1) so ++ (wAx G x tx ++ (wAx G y ty)))) ++ ([] : va_W))) H locs := hw
  refine r_callv (u := ([] : va_W)) (w := wRw G r rs ++ (wOb G (o, x.1, y.1, r.1, b.1) so ++ (wAx G x tx ++ (wAx G y ty)))) (v := ([] : va_W)) (va_runV (As := []) (rest := []) ⟨hx, hb, hml, hown, hts⟩ (c_settle l G r rs so x tx y ty o b (by first | assumption | omega | decide) H.size) (cwV 0 hts gX4_remove_X4_settle rfl rfl rfl (by decide +kernel) ⟨Nat.le_of_ble_eq_true rfl, Nat.le_of_ble_eq_true rfl⟩) (r_preV (ci := 4) (q0 := 11) hK hwc rfl rfl rfl) rfl rfl hl.1 rfl (lv_room (Nat.le_of_ble_eq_true rfl)) dX4_remove_6 ⟨Nat.le_of_ble_eq_true rfl, Nat.le_of_ble_eq_true rfl⟩) hwc hA rfl rfl (fun H locs hw => ?_)
  have hw : wW G A9 s9.heap (wRw G r (rs.1, rs.2.1, rs.2.2.1, rs.2.2.2.1, rs.2.2.2.2.1, (skS so rs tx ty), rs.2.2.2.2.2.2) ++ (wOb G (o, x.1, y.1, r.1, b.1) (so.1, skF so) ++ (wAx G x (skX so rs tx ty) ++ (wAx G y (skY so rs tx ty))))) H locs := hw
  refine lv_aload_n hx hb dX4_remove_9 rfl (lv_at hl 0 rfl) ?_
  refine r_get (ci := 4) (v := .ref r.1) (C := RX4) (T := TX4) (N := 6) hx hb hts wiX4_remove_remove_X4 hown hK hw 11 rfl rfl 2 (by decide) wmX4_remove_remove_0 (fun _ h9 => h9) rfl dX4_remove_10 ?_
  refine r_get (ci := 3) (v := .ref r.2.2.2.2.2.1) (C := RX3) (T := TX3) (N := 7) hx hb hts wiX4_remove_remove_X3 hown hK hw 0 rfl rfl 5 (by decide) wmX4_remove_remove_1 (fun _ h9 => h9) rfl dX4_remove_13 ?_
  refine lv_iload_n hx hb dX4_remove_16 rfl (lv_at hl 1 rfl) ?_
  refine r_top (y := nI (iN i)) (nI_iN _) ?_
  refine r_iald (v := (skS so rs tx ty) (iN i)) hx hb hK hw 5 rfl (iN i) rfl (by omega) (by decide) rfl dX4_remove_17 ?_
  refine lv_istore_n (lv' := [(2, .int ((skS so rs tx ty) (iN i))), (0, .ref o), (1, .int i)]) hx hb dX4_remove_18 rfl hl (by decide) rfl (fun ls hl => ?_)
  refine lv_aload_n hx hb dX4_remove_19 rfl (lv_at hl 1 rfl) ?_
  refine r_get (ci := 4) (v := .ref r.1) (C := RX4) (T := TX4) (N := 6) hx hb hts wiX4_remove_remove_X4 hown hK hw 11 rfl rfl 2 (by decide) wmX4_remove_remove_0 (fun _ h9 => h9) rfl dX4_remove_20 ?_
  refine lv_iload_n hx hb dX4_remove_23 rfl (lv_at hl 2 rfl) ?_
  refine r_top (y := nI (iN i)) (nI_iN _) ?_
  have hwc : wW G A9 s9.heap (([] : va_W) ++ ((wRw G r (rs.1, rs.2.1, rs.2.2.1, rs.2.2.2.1, rs.2.2.2.2.1, (skS so rs tx ty), rs.2.2.2.2.2.2)) ++ (wOb G (o, x.1, y.1, r.1, b.1) (so.1, skF so) ++ (wAx G x (skX so rs tx ty) ++ (wAx G y (skY so rs tx ty)))))) H locs := hw
  refine r_callv (u := ([] : va_W)) (w := wRw G r (rs.1, rs.2.1, rs.2.2.1, rs.2.2.2.1, rs.2.2.2.2.1, (skS so rs tx ty), rs.2.2.2.2.2.2)) (v := wOb G (o, x.1, y.1, r.1, b.1) (so.1, skF so) ++ (wAx G x (skX so rs tx ty) ++ (wAx G y (skY so rs tx ty)))) (va_runV (As := [.int (nI (iN i))]) (rest := []) ⟨hx, hb, hml, hown, hts⟩ (c_drop l G r (rs.1, rs.2.1, rs.2.2.1, rs.2.2.2.1, rs.2.2.2.2.1, (skS so rs tx ty), rs.2.2.2.2.2.2) (iN i) (by first | assumption | omega | decide) (by first | assumption | omega | decide) H.size) (cwV 1 hts gX4_remove_X3_drop rfl rfl rfl (by decide +kernel) ⟨Nat.le_of_ble_eq_true rfl, Nat.le_of_ble_eq_true rfl⟩) (r_preV (ci := 3) (q0 := 0) hK hwc rfl rfl rfl) rfl rfl hl.1 rfl (lv_room (Nat.le_of_ble_eq_true rfl)) dX4_remove_24 ⟨Nat.le_of_ble_eq_true rfl, Nat.le_of_ble_eq_true rfl⟩) hwc hA rfl rfl (fun H locs hw => ?_)
  have hw : wW G A9 s9.heap (wRw G r (rwDrop (rs.1, rs.2.1, rs.2.2.1, rs.2.2.2.1, rs.2.2.2.2.1, (skS so rs tx ty), rs.2.2.2.2.2.2) (iN i)) ++ (wOb G (o, x.1, y.1, r.1, b.1) (so.1, skF so) ++ (wAx G x (skX so rs tx ty) ++ (wAx G y (skY so rs tx ty))))) H locs := hw
  refine lv_aload_n hx hb dX4_remove_27 rfl (lv_at hl 1 rfl) ?_
  refine lv_iconst (v := 0) hx hb dX4_remove_28 (by decide) ?_
  refine r_put (ci := 4) (v := .int 0) (ty := .boolean) (C := RX4) (T := TX4) (N := 6) hx hb hts wiX4_remove_remove_X4 tyX4 tyX4_ok nmX4 hown hK hw 11 rfl rfl 5 (by decide) wmX4_remove_remove_2 (fun _ h9 => h9) rfl (by decide +kernel) (by rfl) (by rfl) (Nat.le_of_ble_eq_true rfl) dX4_remove_29 (ws' := wRw G r (rwDrop (rs.1, rs.2.1, rs.2.2.1, rs.2.2.2.1, rs.2.2.2.2.1, (skS so rs tx ty), rs.2.2.2.2.2.2) (iN i)) ++ (wOb G (o, x.1, y.1, r.1, b.1) (so.1, 0) ++ (wAx G x (skX so rs tx ty) ++ (wAx G y (skY so rs tx ty))))) rfl (fun H locs hw => ?_)
  refine lv_iload_n hx hb dX4_remove_32 rfl (lv_at hl 0 rfl) ?_
  exact x_iret hx hb hr hlocks hK hw (Nat.le_of_ble_eq_true rfl) (Nat.le_of_ble_eq_true rfl) dX4_remove_33 (n_2) (show ((skS so rs tx ty) (iN i) : Int32) = skS so rs tx ty (iN i) by rfl) rfl

theorem wiX4_type_type_X3 : ∀ w ∈ wsX30, w ∈ wsX4_type := by decide +kernel
theorem wiX4_type_type_X4 : ∀ w ∈ wsX40, w ∈ wsX4_type := by decide +kernel
theorem wmX4_type_type_0 : Cond.fieldLink RX4 22 "PartSketch" "rows" "LPartSketch$WishRows;" ∈ wsX4_type := by decide +kernel
theorem wmX4_type_type_1 : Cond.fieldLink RX4 91 "PartSketch$WishRows" "size" "[I" ∈ wsX4_type := by decide +kernel
theorem wmX4_type_type_2 : Cond.fieldLink RX4 67 "PartSketch" "settled" "Z" ∈ wsX4_type := by decide +kernel
set_option maxHeartbeats 4000000 in
set_option maxRecDepth 100000 in
/-- type -/
theorem c_type (l : Launch) (G : gT) (hst : l.stackTraces = false) (X : Nat → Nat) (r : aRw) (rs : tRw) (so : tOb) (o : Nat) (x : aAx) (y : aAx) (b : aBd) (i : Int32) (d : Int32) (hok : skOk so rs) (sz : Nat) : XI l yX4_type wsX4_type ({ frames := 7, cells := 3, slots := 18, locals := 111 }) G X [.ref o, .int i, .int d] (wRw G r rs ++ (wOb G (o, x.1, y.1, r.1, b.1) so)) (wRw G r (rs.1, rs.2.1, rs.2.2.1, rs.2.2.2.1, (upd rs.2.2.2.2.1 (iN i) d), rs.2.2.2.2.2.1, rs.2.2.2.2.2.2) ++ (wOb G (o, x.1, y.1, r.1, b.1) (so.1, 0))) sz (exType rs.1 rs.2.1 i d) (rs.2.2.2.2.1 (iN i)) 3 18 := by
  have hok0 := hok
  obtain ⟨hnp, hct, hon⟩ := hok
  refine x_of (Qc := fun A9 => (va_Qi (fun (r9 : Int32) (_ : Unit) => (exType rs.1 rs.2.1 i d) = none ∧ r9 = (rs.2.2.2.2.1 (iN i))) (fun _ t9 => wPost G A9 (wRw G r (rs.1, rs.2.1, rs.2.2.1, rs.2.2.2.1, (upd rs.2.2.2.2.1 (iN i) d), rs.2.2.2.2.2.1, rs.2.2.2.2.2.2) ++ (wOb G (o, x.1, y.1, r.1, b.1) (so.1, 0))) t9) A9)) (XC := fun A9 => (xC G A9 (wRw G r rs ++ (wOb G (o, x.1, y.1, r.1, b.1) so)) (exType rs.1 rs.2.1 i d))) (cc := cX4_type) (maxL := 4) (ret := (some .int)) (by decide) rfl (Nat.le_of_ble_eq_true rfl) ?_
  intro p9 e9 s9 m9 A9 be9 mt9 c9 H locs ls hx hb hr hts hown hlocks hin hml htab hK hA hF hw hl
  have hl : lv_has ls 4 [(0, .ref o), (1, .int i), (2, .int d)] := hl
  refine lv_aload_n hx hb dX4_type_0 rfl (lv_at hl 0 rfl) ?_
  refine lv_iload_n hx hb dX4_type_1 rfl (lv_at hl 1 rfl) ?_
  have hwc : wW G A9 s9.heap (([] : va_W) ++ ((wRw G r rs ++ (wOb G (o, x.1, y.1, r.1, b.1) so)) ++ ([] : va_W))) H locs := hw
  refine x_callv (u := ([] : va_W)) (w := wRw G r rs ++ (wOb G (o, x.1, y.1, r.1, b.1) so)) (v := ([] : va_W)) (vx_runV (As := [.int i]) (rest := []) ⟨hx, hb, hml, hown, hts⟩ (c_reqWish l G hst X r rs so o x y b i H.size) (cwV 1 hts gX4_type_X4_requireWish rfl rfl rfl (by decide +kernel) ⟨Nat.le_of_ble_eq_true rfl, Nat.le_of_ble_eq_true rfl⟩) (x_preV (ci := 4) (q0 := 11) hK hF hA hwc rfl rfl rfl) rfl rfl hl.1 rfl (lv_room (Nat.le_of_ble_eq_true rfl)) dX4_type_2 ⟨Nat.le_of_ble_eq_true rfl, Nat.le_of_ble_eq_true rfl⟩) hwc hA rfl rfl htab hlocks hK (fun E hE => by simp only [exType, xo, hE]) rfl (Nat.le_of_ble_eq_true rfl) (Nat.le_of_ble_eq_true rfl) (fun n_2 H locs hw => ?_)
  have n_2 : exIn rs.1 i = none := n_2
  have hw : wW G A9 s9.heap (wRw G r rs ++ (wOb G (o, x.1, y.1, r.1, b.1) so)) H locs := hw
  have hp_2 : iN i < rs.1 := exIn_lt (by omega) n_2
  refine lv_aload_n hx hb dX4_type_5 rfl (lv_at hl 0 rfl) ?_
  refine lv_iload_n hx hb dX4_type_6 rfl (lv_at hl 1 rfl) ?_
  refine r_top (y := nI (iN i)) (nI_iN _) ?_
  have hwc : wW G A9 s9.heap (([] : va_W) ++ ((wRw G r rs ++ (wOb G (o, x.1, y.1, r.1, b.1) so)) ++ ([] : va_W))) H locs := hw
  refine x_callv (u := ([] : va_W)) (w := wRw G r rs ++ (wOb G (o, x.1, y.1, r.1, b.1) so)) (v := ([] : va_W)) (vx_runV (As := [.int (nI (iN i))]) (rest := []) ⟨hx, hb, hml, hown, hts⟩ (c_reqSized l G hst X r rs so o x y b (iN i) (by first | assumption | omega | decide) H.size) (cwV 1 hts gX4_type_X4_requireSized rfl rfl rfl (by decide +kernel) ⟨Nat.le_of_ble_eq_true rfl, Nat.le_of_ble_eq_true rfl⟩) (x_preV (ci := 4) (q0 := 11) hK hF hA hwc rfl rfl rfl) rfl rfl hl.1 rfl (lv_room (Nat.le_of_ble_eq_true rfl)) dX4_type_7 ⟨Nat.le_of_ble_eq_true rfl, Nat.le_of_ble_eq_true rfl⟩) hwc hA rfl rfl htab hlocks hK (fun E hE => by simp only [exType, xo, hE, n_2]) rfl (Nat.le_of_ble_eq_true rfl) (Nat.le_of_ble_eq_true rfl) (fun n_7 H locs hw => ?_)
  have n_7 : exSized (rs.2.1 (iN i)) = none := n_7
  have hw : wW G A9 s9.heap (wRw G r rs ++ (wOb G (o, x.1, y.1, r.1, b.1) so)) H locs := hw
  refine lv_iload_n hx hb dX4_type_10 rfl (lv_at hl 2 rfl) ?_
  have hwc : wW G A9 s9.heap (([] : va_W) ++ (([] : va_W) ++ (wRw G r rs ++ (wOb G (o, x.1, y.1, r.1, b.1) so)))) H locs := hw
  refine x_callv (u := ([] : va_W)) (w := ([] : va_W)) (v := wRw G r rs ++ (wOb G (o, x.1, y.1, r.1, b.1) so)) (vx_runS (As := [.int d]) (rest := []) ⟨hx, hb, hml, hown, hts⟩ (c_reqReach l G hst X d H.size) (va_cwS 1 hts gX4_type_X4_requireReach rfl rfl rfl (by decide +kernel) ⟨Nat.le_of_ble_eq_true rfl, Nat.le_of_ble_eq_true rfl⟩) (x_preS hK hF hA hwc) rfl rfl hl.1 rfl (lv_room (Nat.le_of_ble_eq_true rfl)) dX4_type_11 ⟨Nat.le_of_ble_eq_true rfl, Nat.le_of_ble_eq_true rfl⟩) hwc hA rfl rfl htab hlocks hK (fun E hE => by simp only [exType, xo, hE, n_2, n_7]) rfl (Nat.le_of_ble_eq_true rfl) (Nat.le_of_ble_eq_true rfl) (fun n_11 H locs hw => ?_)
  have n_11 : exReach d = none := n_11
  have hw : wW G A9 s9.heap (wRw G r rs ++ (wOb G (o, x.1, y.1, r.1, b.1) so)) H locs := hw
  refine lv_aload_n hx hb dX4_type_14 rfl (lv_at hl 0 rfl) ?_
  refine r_get (ci := 4) (v := .ref r.1) (C := RX4) (T := TX4) (N := 6) hx hb hts wiX4_type_type_X4 hown hK hw 11 rfl rfl 2 (by decide) wmX4_type_type_0 (fun _ h9 => h9) rfl dX4_type_15 ?_
  refine r_get (ci := 3) (v := .ref r.2.2.2.2.1) (C := RX3) (T := TX3) (N := 7) hx hb hts wiX4_type_type_X3 hown hK hw 0 rfl rfl 4 (by decide) wmX4_type_type_1 (fun _ h9 => h9) rfl dX4_type_18 ?_
  refine lv_iload_n hx hb dX4_type_21 rfl (lv_at hl 1 rfl) ?_
  refine r_top (y := nI (iN i)) (nI_iN _) ?_
  refine r_iald (v := rs.2.2.2.2.1 (iN i)) hx hb hK hw 4 rfl (iN i) rfl (by omega) (by decide) rfl dX4_type_22 ?_
  refine lv_istore_n (lv' := [(3, .int (rs.2.2.2.2.1 (iN i))), (0, .ref o), (1, .int i), (2, .int d)]) hx hb dX4_type_23 rfl hl (by decide) rfl (fun ls hl => ?_)
  refine lv_aload_n hx hb dX4_type_24 rfl (lv_at hl 1 rfl) ?_
  refine r_get (ci := 4) (v := .ref r.1) (C := RX4) (T := TX4) (N := 6) hx hb hts wiX4_type_type_X4 hown hK hw 11 rfl rfl 2 (by decide) wmX4_type_type_0 (fun _ h9 => h9) rfl dX4_type_25 ?_
  refine r_get (ci := 3) (v := .ref r.2.2.2.2.1) (C := RX3) (T := TX3) (N := 7) hx hb hts wiX4_type_type_X3 hown hK hw 0 rfl rfl 4 (by decide) wmX4_type_type_1 (fun _ h9 => h9) rfl dX4_type_28 ?_
  refine lv_iload_n hx hb dX4_type_31 rfl (lv_at hl 2 rfl) ?_
  refine r_top (y := nI (iN i)) (nI_iN _) ?_
  refine lv_iload_n hx hb dX4_type_32 rfl (lv_at hl 3 rfl) ?_
  refine r_iast hx hb hK hw 4 rfl (iN i) rfl (by omega) (by decide) dX4_type_33 (ws' := wRw G r (rs.1, rs.2.1, rs.2.2.1, rs.2.2.2.1, (upd rs.2.2.2.2.1 (iN i) d), rs.2.2.2.2.2.1, rs.2.2.2.2.2.2) ++ (wOb G (o, x.1, y.1, r.1, b.1) so)) rfl (fun H locs hw => ?_)
  refine lv_aload_n hx hb dX4_type_34 rfl (lv_at hl 1 rfl) ?_
  refine lv_iconst (v := 0) hx hb dX4_type_35 (by decide) ?_
  refine r_put (ci := 4) (v := .int 0) (ty := .boolean) (C := RX4) (T := TX4) (N := 6) hx hb hts wiX4_type_type_X4 tyX4 tyX4_ok nmX4 hown hK hw 11 rfl rfl 5 (by decide) wmX4_type_type_2 (fun _ h9 => h9) rfl (by decide +kernel) (by rfl) (by rfl) (Nat.le_of_ble_eq_true rfl) dX4_type_36 (ws' := wRw G r (rs.1, rs.2.1, rs.2.2.1, rs.2.2.2.1, (upd rs.2.2.2.2.1 (iN i) d), rs.2.2.2.2.2.1, rs.2.2.2.2.2.2) ++ (wOb G (o, x.1, y.1, r.1, b.1) (so.1, 0))) rfl (fun H locs hw => ?_)
  refine lv_iload_n hx hb dX4_type_39 rfl (lv_at hl 0 rfl) ?_
  exact x_iret hx hb hr hlocks hK hw (Nat.le_of_ble_eq_true rfl) (Nat.le_of_ble_eq_true rfl) dX4_type_40 (by simp only [exType, xo, n_2, n_7, n_11]) (show (rs.2.2.2.2.1 (iN i) : Int32) = rs.2.2.2.2.1 (iN i) by rfl) rfl

theorem wiX4_state_state_X3 : ∀ w ∈ wsX30, w ∈ wsX4_state := by decide +kernel
theorem wiX4_state_state_X4 : ∀ w ∈ wsX40, w ∈ wsX4_state := by decide +kernel
theorem wmX4_state_state_0 : Cond.fieldLink RX4 22 "PartSketch" "rows" "LPartSketch$WishRows;" ∈ wsX4_state := by decide +kernel
theorem wmX4_state_state_1 : Cond.fieldLink RX4 81 "PartSketch$WishRows" "state" "[I" ∈ wsX4_state := by decide +kernel
set_option maxHeartbeats 4000000 in
set_option maxRecDepth 100000 in
/-- state -/
theorem c_state (l : Launch) (G : gT) (hst : l.stackTraces = false) (X : Nat → Nat) (r : aRw) (rs : tRw) (so : tOb) (x : aAx) (tx : tAx) (y : aAx) (ty : tAx) (o : Nat) (b : aBd) (i : Int32) (hok : skOk so rs) (sz : Nat) : XI l yX4_state wsX4_state ({ frames := 7, cells := 1, slots := 6, locals := 111 }) G X [.ref o, .int i] (wRw G r rs ++ (wOb G (o, x.1, y.1, r.1, b.1) so ++ (wAx G x tx ++ (wAx G y ty)))) (wRw G r (rs.1, rs.2.1, rs.2.2.1, rs.2.2.2.1, rs.2.2.2.2.1, (skS so rs tx ty), rs.2.2.2.2.2.2) ++ (wOb G (o, x.1, y.1, r.1, b.1) (so.1, skF so) ++ (wAx G x (skX so rs tx ty) ++ (wAx G y (skY so rs tx ty))))) sz (exIn rs.1 i) (skS so rs tx ty (iN i)) 1 6 := by
  have hok0 := hok
  obtain ⟨hnp, hct, hon⟩ := hok
  refine x_of (Qc := fun A9 => (va_Qi (fun (r9 : Int32) (_ : Unit) => (exIn rs.1 i) = none ∧ r9 = (skS so rs tx ty (iN i))) (fun _ t9 => wPost G A9 (wRw G r (rs.1, rs.2.1, rs.2.2.1, rs.2.2.2.1, rs.2.2.2.2.1, (skS so rs tx ty), rs.2.2.2.2.2.2) ++ (wOb G (o, x.1, y.1, r.1, b.1) (so.1, skF so) ++ (wAx G x (skX so rs tx ty) ++ (wAx G y (skY so rs tx ty))))) t9) A9)) (XC := fun A9 => (xC G A9 (wRw G r rs ++ (wOb G (o, x.1, y.1, r.1, b.1) so ++ (wAx G x tx ++ (wAx G y ty)))) (exIn rs.1 i))) (cc := cX4_state) (maxL := 2) (ret := (some .int)) (by decide) rfl (Nat.le_of_ble_eq_true rfl) ?_
  intro p9 e9 s9 m9 A9 be9 mt9 c9 H locs ls hx hb hr hts hown hlocks hin hml htab hK hA hF hw hl
  have hl : lv_has ls 2 [(0, .ref o), (1, .int i)] := hl
  refine lv_aload_n hx hb dX4_state_0 rfl (lv_at hl 0 rfl) ?_
  refine lv_iload_n hx hb dX4_state_1 rfl (lv_at hl 1 rfl) ?_
  have hwc : wW G A9 s9.heap (([] : va_W) ++ ((wRw G r rs ++ (wOb G (o, x.1, y.1, r.1, b.1) so)) ++ (wAx G x tx ++ (wAx G y ty)))) H locs := hw
  refine x_callv (u := ([] : va_W)) (w := wRw G r rs ++ (wOb G (o, x.1, y.1, r.1, b.1) so)) (v := wAx G x tx ++ (wAx G y ty)) (vx_runV (As := [.int i]) (rest := []) ⟨hx, hb, hml, hown, hts⟩ (c_reqWish l G hst X r rs so o x y b i H.size) (cwV 1 hts gX4_state_X4_requireWish rfl rfl rfl (by decide +kernel) ⟨Nat.le_of_ble_eq_true rfl, Nat.le_of_ble_eq_true rfl⟩) (x_preV (ci := 4) (q0 := 11) hK hF hA hwc rfl rfl rfl) rfl rfl hl.1 rfl (lv_room (Nat.le_of_ble_eq_true rfl)) dX4_state_2 ⟨Nat.le_of_ble_eq_true rfl, Nat.le_of_ble_eq_true rfl⟩) hwc hA rfl rfl htab hlocks hK (fun E hE => by simp only [xo, hE]) rfl (Nat.le_of_ble_eq_true rfl) (Nat.le_of_ble_eq_true rfl) (fun n_2 H locs hw => ?_)
  have n_2 : exIn rs.1 i = none := n_2
  have hw : wW G A9 s9.heap (wRw G r rs ++ (wOb G (o, x.1, y.1, r.1, b.1) so ++ (wAx G x tx ++ (wAx G y ty)))) H locs := hw
  have hp_2 : iN i < rs.1 := exIn_lt (by omega) n_2
  refine lv_aload_n hx hb dX4_state_5 rfl (lv_at hl 0 rfl) ?_
  have hwc : wW G A9 s9.heap (([] : va_W) ++ ((wRw G r rs ++ (wOb G (o, x.1, y.1, r.1, b.1) so ++ (wAx G x tx ++ (wAx G y ty)))) ++ ([] : va_W))) H locs := hw
  refine r_callv (u := ([] : va_W)) (w := wRw G r rs ++ (wOb G (o, x.1, y.1, r.1, b.1) so ++ (wAx G x tx ++ (wAx G y ty)))) (v := ([] : va_W)) (va_runV (As := []) (rest := []) ⟨hx, hb, hml, hown, hts⟩ (c_settle l G r rs so x tx y ty o b (by first | assumption | omega | decide) H.size) (cwV 0 hts gX4_state_X4_settle rfl rfl rfl (by decide +kernel) ⟨Nat.le_of_ble_eq_true rfl, Nat.le_of_ble_eq_true rfl⟩) (r_preV (ci := 4) (q0 := 11) hK hwc rfl rfl rfl) rfl rfl hl.1 rfl (lv_room (Nat.le_of_ble_eq_true rfl)) dX4_state_6 ⟨Nat.le_of_ble_eq_true rfl, Nat.le_of_ble_eq_true rfl⟩) hwc hA rfl rfl (fun H locs hw => ?_)
  have hw : wW G A9 s9.heap (wRw G r (rs.1, rs.2.1, rs.2.2.1, rs.2.2.2.1, rs.2.2.2.2.1, (skS so rs tx ty), rs.2.2.2.2.2.2) ++ (wOb G (o, x.1, y.1, r.1, b.1) (so.1, skF so) ++ (wAx G x (skX so rs tx ty) ++ (wAx G y (skY so rs tx ty))))) H locs := hw
  refine lv_aload_n hx hb dX4_state_9 rfl (lv_at hl 0 rfl) ?_
  refine r_get (ci := 4) (v := .ref r.1) (C := RX4) (T := TX4) (N := 6) hx hb hts wiX4_state_state_X4 hown hK hw 11 rfl rfl 2 (by decide) wmX4_state_state_0 (fun _ h9 => h9) rfl dX4_state_10 ?_
  refine r_get (ci := 3) (v := .ref r.2.2.2.2.2.1) (C := RX3) (T := TX3) (N := 7) hx hb hts wiX4_state_state_X3 hown hK hw 0 rfl rfl 5 (by decide) wmX4_state_state_1 (fun _ h9 => h9) rfl dX4_state_13 ?_
  refine lv_iload_n hx hb dX4_state_16 rfl (lv_at hl 1 rfl) ?_
  refine r_top (y := nI (iN i)) (nI_iN _) ?_
  refine r_iald (v := (skS so rs tx ty) (iN i)) hx hb hK hw 5 rfl (iN i) rfl (by omega) (by decide) rfl dX4_state_17 ?_
  exact x_iret hx hb hr hlocks hK hw (Nat.le_of_ble_eq_true rfl) (Nat.le_of_ble_eq_true rfl) dX4_state_18 (n_2) (show ((skS so rs tx ty) (iN i) : Int32) = skS so rs tx ty (iN i) by rfl) rfl

theorem wiX4_x_x_X4 : ∀ w ∈ wsX40, w ∈ wsX4_x := by decide +kernel
theorem wmX4_x_x_0 : Cond.fieldLink RX4 12 "PartSketch" "xAxis" "LPartSketch$Axis;" ∈ wsX4_x := by decide +kernel
set_option maxHeartbeats 4000000 in
set_option maxRecDepth 100000 in
/-- x -/
theorem c_x (l : Launch) (G : gT) (hst : l.stackTraces = false) (X : Nat → Nat) (r : aRw) (rs : tRw) (so : tOb) (x : aAx) (tx : tAx) (y : aAx) (ty : tAx) (o : Nat) (b : aBd) (i : Int32) (hok : skOk so rs) (sz : Nat) : XI l yX4_x wsX4_x ({ frames := 7, cells := 1, slots := 6, locals := 111 }) G X [.ref o, .int i] (wRw G r rs ++ (wOb G (o, x.1, y.1, r.1, b.1) so ++ (wAx G x tx ++ (wAx G y ty)))) (wRw G r (rs.1, rs.2.1, rs.2.2.1, rs.2.2.2.1, rs.2.2.2.2.1, (skS so rs tx ty), rs.2.2.2.2.2.2) ++ (wOb G (o, x.1, y.1, r.1, b.1) (so.1, skF so) ++ (wAx G x (skX so rs tx ty) ++ (wAx G y (skY so rs tx ty))))) sz (exIn so.1 i) (axPl (skX so rs tx ty) (iN i)) 1 6 := by
  have hok0 := hok
  obtain ⟨hnp, hct, hon⟩ := hok
  refine x_of (Qc := fun A9 => (va_Qi (fun (r9 : Int32) (_ : Unit) => (exIn so.1 i) = none ∧ r9 = (axPl (skX so rs tx ty) (iN i))) (fun _ t9 => wPost G A9 (wRw G r (rs.1, rs.2.1, rs.2.2.1, rs.2.2.2.1, rs.2.2.2.2.1, (skS so rs tx ty), rs.2.2.2.2.2.2) ++ (wOb G (o, x.1, y.1, r.1, b.1) (so.1, skF so) ++ (wAx G x (skX so rs tx ty) ++ (wAx G y (skY so rs tx ty))))) t9) A9)) (XC := fun A9 => (xC G A9 (wRw G r rs ++ (wOb G (o, x.1, y.1, r.1, b.1) so ++ (wAx G x tx ++ (wAx G y ty)))) (exIn so.1 i))) (cc := cX4_x) (maxL := 2) (ret := (some .int)) (by decide) rfl (Nat.le_of_ble_eq_true rfl) ?_
  intro p9 e9 s9 m9 A9 be9 mt9 c9 H locs ls hx hb hr hts hown hlocks hin hml htab hK hA hF hw hl
  have hl : lv_has ls 2 [(0, .ref o), (1, .int i)] := hl
  refine lv_aload_n hx hb dX4_x_0 rfl (lv_at hl 0 rfl) ?_
  refine lv_iload_n hx hb dX4_x_1 rfl (lv_at hl 1 rfl) ?_
  have hwc : wW G A9 s9.heap ((wRw G r rs) ++ ((wOb G (o, x.1, y.1, r.1, b.1) so) ++ (wAx G x tx ++ (wAx G y ty)))) H locs := hw
  refine x_callv (u := wRw G r rs) (w := wOb G (o, x.1, y.1, r.1, b.1) so) (v := wAx G x tx ++ (wAx G y ty)) (vx_runV (As := [.int i]) (rest := []) ⟨hx, hb, hml, hown, hts⟩ (c_reqPoint l G hst X so o r x y b i H.size) (cwV 1 hts gX4_x_X4_requirePoint rfl rfl rfl (by decide +kernel) ⟨Nat.le_of_ble_eq_true rfl, Nat.le_of_ble_eq_true rfl⟩) (x_preV (ci := 4) (q0 := 11) hK hF hA hwc rfl rfl rfl) rfl rfl hl.1 rfl (lv_room (Nat.le_of_ble_eq_true rfl)) dX4_x_2 ⟨Nat.le_of_ble_eq_true rfl, Nat.le_of_ble_eq_true rfl⟩) hwc hA rfl rfl htab hlocks hK (fun E hE => by simp only [xo, hE]) rfl (Nat.le_of_ble_eq_true rfl) (Nat.le_of_ble_eq_true rfl) (fun n_2 H locs hw => ?_)
  have n_2 : exIn so.1 i = none := n_2
  have hw : wW G A9 s9.heap (wRw G r rs ++ (wOb G (o, x.1, y.1, r.1, b.1) so ++ (wAx G x tx ++ (wAx G y ty)))) H locs := hw
  have hp_2 : iN i < so.1 := exIn_lt (by omega) n_2
  refine lv_aload_n hx hb dX4_x_5 rfl (lv_at hl 0 rfl) ?_
  have hwc : wW G A9 s9.heap (([] : va_W) ++ ((wRw G r rs ++ (wOb G (o, x.1, y.1, r.1, b.1) so ++ (wAx G x tx ++ (wAx G y ty)))) ++ ([] : va_W))) H locs := hw
  refine r_callv (u := ([] : va_W)) (w := wRw G r rs ++ (wOb G (o, x.1, y.1, r.1, b.1) so ++ (wAx G x tx ++ (wAx G y ty)))) (v := ([] : va_W)) (va_runV (As := []) (rest := []) ⟨hx, hb, hml, hown, hts⟩ (c_settle l G r rs so x tx y ty o b (by first | assumption | omega | decide) H.size) (cwV 0 hts gX4_x_X4_settle rfl rfl rfl (by decide +kernel) ⟨Nat.le_of_ble_eq_true rfl, Nat.le_of_ble_eq_true rfl⟩) (r_preV (ci := 4) (q0 := 11) hK hwc rfl rfl rfl) rfl rfl hl.1 rfl (lv_room (Nat.le_of_ble_eq_true rfl)) dX4_x_6 ⟨Nat.le_of_ble_eq_true rfl, Nat.le_of_ble_eq_true rfl⟩) hwc hA rfl rfl (fun H locs hw => ?_)
  have hw : wW G A9 s9.heap (wRw G r (rs.1, rs.2.1, rs.2.2.1, rs.2.2.2.1, rs.2.2.2.2.1, (skS so rs tx ty), rs.2.2.2.2.2.2) ++ (wOb G (o, x.1, y.1, r.1, b.1) (so.1, skF so) ++ (wAx G x (skX so rs tx ty) ++ (wAx G y (skY so rs tx ty))))) H locs := hw
  refine lv_aload_n hx hb dX4_x_9 rfl (lv_at hl 0 rfl) ?_
  refine r_get (ci := 4) (v := .ref x.1) (C := RX4) (T := TX4) (N := 6) hx hb hts wiX4_x_x_X4 hown hK hw 11 rfl rfl 0 (by decide) wmX4_x_x_0 (fun _ h9 => h9) rfl dX4_x_10 ?_
  refine lv_iload_n hx hb dX4_x_13 rfl (lv_at hl 1 rfl) ?_
  refine r_top (y := nI (iN i)) (nI_iN _) ?_
  have hwc : wW G A9 s9.heap ((wRw G r (rs.1, rs.2.1, rs.2.2.1, rs.2.2.2.1, rs.2.2.2.2.1, (skS so rs tx ty), rs.2.2.2.2.2.2) ++ (wOb G (o, x.1, y.1, r.1, b.1) (so.1, skF so))) ++ ((wAx G x (skX so rs tx ty)) ++ (wAx G y (skY so rs tx ty)))) H locs := hw
  refine r_calli (res := (axPl (skX so rs tx ty) (iN i))) (u := wRw G r (rs.1, rs.2.1, rs.2.2.1, rs.2.2.2.1, rs.2.2.2.2.1, (skS so rs tx ty), rs.2.2.2.2.2.2) ++ (wOb G (o, x.1, y.1, r.1, b.1) (so.1, skF so))) (w := wAx G x (skX so rs tx ty)) (v := wAx G y (skY so rs tx ty)) (va_runV (As := [.int (nI (iN i))]) (rest := []) ⟨hx, hb, hml, hown, hts⟩ (c_placeOf l G x (skX so rs tx ty) (iN i) (by first | assumption | omega | decide) H.size) (cwV 1 hts gX4_x_X0_placeOf rfl rfl rfl (by decide +kernel) ⟨Nat.le_of_ble_eq_true rfl, Nat.le_of_ble_eq_true rfl⟩) (r_preV (ci := 0) (q0 := 12) hK hwc rfl rfl rfl) rfl rfl hl.1 rfl (lv_room (Nat.le_of_ble_eq_true rfl)) dX4_x_14 ⟨Nat.le_of_ble_eq_true rfl, Nat.le_of_ble_eq_true rfl⟩) hwc hA rfl rfl (fun H locs hw => ?_)
  have hw : wW G A9 s9.heap (wRw G r (rs.1, rs.2.1, rs.2.2.1, rs.2.2.2.1, rs.2.2.2.2.1, (skS so rs tx ty), rs.2.2.2.2.2.2) ++ (wOb G (o, x.1, y.1, r.1, b.1) (so.1, skF so) ++ (wAx G x (skX so rs tx ty) ++ (wAx G y (skY so rs tx ty))))) H locs := hw
  exact x_iret hx hb hr hlocks hK hw (Nat.le_of_ble_eq_true rfl) (Nat.le_of_ble_eq_true rfl) dX4_x_17 (n_2) (show (axPl (skX so rs tx ty) (iN i) : Int32) = axPl (skX so rs tx ty) (iN i) by rfl) rfl

theorem wiX4_y_y_X4 : ∀ w ∈ wsX40, w ∈ wsX4_y := by decide +kernel
theorem wmX4_y_y_0 : Cond.fieldLink RX4 16 "PartSketch" "yAxis" "LPartSketch$Axis;" ∈ wsX4_y := by decide +kernel
set_option maxHeartbeats 4000000 in
set_option maxRecDepth 100000 in
/-- y -/
theorem c_y (l : Launch) (G : gT) (hst : l.stackTraces = false) (X : Nat → Nat) (r : aRw) (rs : tRw) (so : tOb) (x : aAx) (tx : tAx) (y : aAx) (ty : tAx) (o : Nat) (b : aBd) (i : Int32) (hok : skOk so rs) (sz : Nat) : XI l yX4_y wsX4_y ({ frames := 7, cells := 1, slots := 6, locals := 111 }) G X [.ref o, .int i] (wRw G r rs ++ (wOb G (o, x.1, y.1, r.1, b.1) so ++ (wAx G x tx ++ (wAx G y ty)))) (wRw G r (rs.1, rs.2.1, rs.2.2.1, rs.2.2.2.1, rs.2.2.2.2.1, (skS so rs tx ty), rs.2.2.2.2.2.2) ++ (wOb G (o, x.1, y.1, r.1, b.1) (so.1, skF so) ++ (wAx G x (skX so rs tx ty) ++ (wAx G y (skY so rs tx ty))))) sz (exIn so.1 i) (axPl (skY so rs tx ty) (iN i)) 1 6 := by
  have hok0 := hok
  obtain ⟨hnp, hct, hon⟩ := hok
  refine x_of (Qc := fun A9 => (va_Qi (fun (r9 : Int32) (_ : Unit) => (exIn so.1 i) = none ∧ r9 = (axPl (skY so rs tx ty) (iN i))) (fun _ t9 => wPost G A9 (wRw G r (rs.1, rs.2.1, rs.2.2.1, rs.2.2.2.1, rs.2.2.2.2.1, (skS so rs tx ty), rs.2.2.2.2.2.2) ++ (wOb G (o, x.1, y.1, r.1, b.1) (so.1, skF so) ++ (wAx G x (skX so rs tx ty) ++ (wAx G y (skY so rs tx ty))))) t9) A9)) (XC := fun A9 => (xC G A9 (wRw G r rs ++ (wOb G (o, x.1, y.1, r.1, b.1) so ++ (wAx G x tx ++ (wAx G y ty)))) (exIn so.1 i))) (cc := cX4_y) (maxL := 2) (ret := (some .int)) (by decide) rfl (Nat.le_of_ble_eq_true rfl) ?_
  intro p9 e9 s9 m9 A9 be9 mt9 c9 H locs ls hx hb hr hts hown hlocks hin hml htab hK hA hF hw hl
  have hl : lv_has ls 2 [(0, .ref o), (1, .int i)] := hl
  refine lv_aload_n hx hb dX4_y_0 rfl (lv_at hl 0 rfl) ?_
  refine lv_iload_n hx hb dX4_y_1 rfl (lv_at hl 1 rfl) ?_
  have hwc : wW G A9 s9.heap ((wRw G r rs) ++ ((wOb G (o, x.1, y.1, r.1, b.1) so) ++ (wAx G x tx ++ (wAx G y ty)))) H locs := hw
  refine x_callv (u := wRw G r rs) (w := wOb G (o, x.1, y.1, r.1, b.1) so) (v := wAx G x tx ++ (wAx G y ty)) (vx_runV (As := [.int i]) (rest := []) ⟨hx, hb, hml, hown, hts⟩ (c_reqPoint l G hst X so o r x y b i H.size) (cwV 1 hts gX4_y_X4_requirePoint rfl rfl rfl (by decide +kernel) ⟨Nat.le_of_ble_eq_true rfl, Nat.le_of_ble_eq_true rfl⟩) (x_preV (ci := 4) (q0 := 11) hK hF hA hwc rfl rfl rfl) rfl rfl hl.1 rfl (lv_room (Nat.le_of_ble_eq_true rfl)) dX4_y_2 ⟨Nat.le_of_ble_eq_true rfl, Nat.le_of_ble_eq_true rfl⟩) hwc hA rfl rfl htab hlocks hK (fun E hE => by simp only [xo, hE]) rfl (Nat.le_of_ble_eq_true rfl) (Nat.le_of_ble_eq_true rfl) (fun n_2 H locs hw => ?_)
  have n_2 : exIn so.1 i = none := n_2
  have hw : wW G A9 s9.heap (wRw G r rs ++ (wOb G (o, x.1, y.1, r.1, b.1) so ++ (wAx G x tx ++ (wAx G y ty)))) H locs := hw
  have hp_2 : iN i < so.1 := exIn_lt (by omega) n_2
  refine lv_aload_n hx hb dX4_y_5 rfl (lv_at hl 0 rfl) ?_
  have hwc : wW G A9 s9.heap (([] : va_W) ++ ((wRw G r rs ++ (wOb G (o, x.1, y.1, r.1, b.1) so ++ (wAx G x tx ++ (wAx G y ty)))) ++ ([] : va_W))) H locs := hw
  refine r_callv (u := ([] : va_W)) (w := wRw G r rs ++ (wOb G (o, x.1, y.1, r.1, b.1) so ++ (wAx G x tx ++ (wAx G y ty)))) (v := ([] : va_W)) (va_runV (As := []) (rest := []) ⟨hx, hb, hml, hown, hts⟩ (c_settle l G r rs so x tx y ty o b (by first | assumption | omega | decide) H.size) (cwV 0 hts gX4_y_X4_settle rfl rfl rfl (by decide +kernel) ⟨Nat.le_of_ble_eq_true rfl, Nat.le_of_ble_eq_true rfl⟩) (r_preV (ci := 4) (q0 := 11) hK hwc rfl rfl rfl) rfl rfl hl.1 rfl (lv_room (Nat.le_of_ble_eq_true rfl)) dX4_y_6 ⟨Nat.le_of_ble_eq_true rfl, Nat.le_of_ble_eq_true rfl⟩) hwc hA rfl rfl (fun H locs hw => ?_)
  have hw : wW G A9 s9.heap (wRw G r (rs.1, rs.2.1, rs.2.2.1, rs.2.2.2.1, rs.2.2.2.2.1, (skS so rs tx ty), rs.2.2.2.2.2.2) ++ (wOb G (o, x.1, y.1, r.1, b.1) (so.1, skF so) ++ (wAx G x (skX so rs tx ty) ++ (wAx G y (skY so rs tx ty))))) H locs := hw
  refine lv_aload_n hx hb dX4_y_9 rfl (lv_at hl 0 rfl) ?_
  refine r_get (ci := 4) (v := .ref y.1) (C := RX4) (T := TX4) (N := 6) hx hb hts wiX4_y_y_X4 hown hK hw 11 rfl rfl 1 (by decide) wmX4_y_y_0 (fun _ h9 => h9) rfl dX4_y_10 ?_
  refine lv_iload_n hx hb dX4_y_13 rfl (lv_at hl 1 rfl) ?_
  refine r_top (y := nI (iN i)) (nI_iN _) ?_
  have hwc : wW G A9 s9.heap ((wRw G r (rs.1, rs.2.1, rs.2.2.1, rs.2.2.2.1, rs.2.2.2.2.1, (skS so rs tx ty), rs.2.2.2.2.2.2) ++ (wOb G (o, x.1, y.1, r.1, b.1) (so.1, skF so) ++ (wAx G x (skX so rs tx ty)))) ++ ((wAx G y (skY so rs tx ty)) ++ ([] : va_W))) H locs := hw
  refine r_calli (res := (axPl (skY so rs tx ty) (iN i))) (u := wRw G r (rs.1, rs.2.1, rs.2.2.1, rs.2.2.2.1, rs.2.2.2.2.1, (skS so rs tx ty), rs.2.2.2.2.2.2) ++ (wOb G (o, x.1, y.1, r.1, b.1) (so.1, skF so) ++ (wAx G x (skX so rs tx ty)))) (w := wAx G y (skY so rs tx ty)) (v := ([] : va_W)) (va_runV (As := [.int (nI (iN i))]) (rest := []) ⟨hx, hb, hml, hown, hts⟩ (c_placeOf l G y (skY so rs tx ty) (iN i) (by first | assumption | omega | decide) H.size) (cwV 1 hts gX4_y_X0_placeOf rfl rfl rfl (by decide +kernel) ⟨Nat.le_of_ble_eq_true rfl, Nat.le_of_ble_eq_true rfl⟩) (r_preV (ci := 0) (q0 := 16) hK hwc rfl rfl rfl) rfl rfl hl.1 rfl (lv_room (Nat.le_of_ble_eq_true rfl)) dX4_y_14 ⟨Nat.le_of_ble_eq_true rfl, Nat.le_of_ble_eq_true rfl⟩) hwc hA rfl rfl (fun H locs hw => ?_)
  have hw : wW G A9 s9.heap (wRw G r (rs.1, rs.2.1, rs.2.2.1, rs.2.2.2.1, rs.2.2.2.2.1, (skS so rs tx ty), rs.2.2.2.2.2.2) ++ (wOb G (o, x.1, y.1, r.1, b.1) (so.1, skF so) ++ (wAx G x (skX so rs tx ty) ++ (wAx G y (skY so rs tx ty))))) H locs := hw
  exact x_iret hx hb hr hlocks hK hw (Nat.le_of_ble_eq_true rfl) (Nat.le_of_ble_eq_true rfl) dX4_y_17 (n_2) (show (axPl (skY so rs tx ty) (iN i) : Int32) = axPl (skY so rs tx ty) (iN i) by rfl) rfl

theorem wiX4_tell_tell_X3 : ∀ w ∈ wsX30, w ∈ wsX4_tell := by decide +kernel
theorem wiX4_tell_tell_X4 : ∀ w ∈ wsX40, w ∈ wsX4_tell := by decide +kernel
theorem wmX4_tell_tell_0 : Cond.fieldLink RX4 22 "PartSketch" "rows" "LPartSketch$WishRows;" ∈ wsX4_tell := by decide +kernel
theorem wmX4_tell_tell_1 : Cond.fieldLink RX4 104 "PartSketch$WishRows" "told" "[[I" ∈ wsX4_tell := by decide +kernel
set_option maxHeartbeats 4000000 in
set_option maxRecDepth 100000 in
/-- tell -/
theorem c_tell (l : Launch) (G : gT) (hst : l.stackTraces = false) (X : Nat → Nat) (r : aRw) (rs : tRw) (so : tOb) (o : Nat) (x : aAx) (y : aAx) (b : aBd) (v : Int32) (i : Int32) (d : Int32) (hok : skOk so rs) (sz : Nat) : XI l yX4_tell wsX4_tell ({ frames := 7, cells := 4, slots := 24, locals := 111 }) G X [.ref o, .int v, .int i, .int d] (wRw G r rs ++ (wOb G (o, x.1, y.1, r.1, b.1) so)) (wRw G r (rs.1, rs.2.1, rs.2.2.1, rs.2.2.2.1, rs.2.2.2.2.1, rs.2.2.2.2.2.1, (updF rs.2.2.2.2.2.2 (iN v) (upd (rs.2.2.2.2.2.2 (iN v)) (iN i) d))) ++ (wOb G (o, x.1, y.1, r.1, b.1) so)) sz (exTell rs.1 rs.2.1 v i d) (rwCountK (rs.1, rs.2.1, rs.2.2.1, rs.2.2.2.1, rs.2.2.2.2.1, rs.2.2.2.2.2.1, updF rs.2.2.2.2.2.2 (iN v) (upd (rs.2.2.2.2.2.2 (iN v)) (iN i) d)) (iN v) rs.1) 4 24 := by
  have hok0 := hok
  obtain ⟨hnp, hct, hon⟩ := hok
  refine x_of (Qc := fun A9 => (va_Qi (fun (r9 : Int32) (_ : Unit) => (exTell rs.1 rs.2.1 v i d) = none ∧ r9 = (rwCountK (rs.1, rs.2.1, rs.2.2.1, rs.2.2.2.1, rs.2.2.2.2.1, rs.2.2.2.2.2.1, updF rs.2.2.2.2.2.2 (iN v) (upd (rs.2.2.2.2.2.2 (iN v)) (iN i) d)) (iN v) rs.1)) (fun _ t9 => wPost G A9 (wRw G r (rs.1, rs.2.1, rs.2.2.1, rs.2.2.2.1, rs.2.2.2.2.1, rs.2.2.2.2.2.1, (updF rs.2.2.2.2.2.2 (iN v) (upd (rs.2.2.2.2.2.2 (iN v)) (iN i) d))) ++ (wOb G (o, x.1, y.1, r.1, b.1) so)) t9) A9)) (XC := fun A9 => (xC G A9 (wRw G r rs ++ (wOb G (o, x.1, y.1, r.1, b.1) so)) (exTell rs.1 rs.2.1 v i d))) (cc := cX4_tell) (maxL := 4) (ret := (some .int)) (by decide) rfl (Nat.le_of_ble_eq_true rfl) ?_
  intro p9 e9 s9 m9 A9 be9 mt9 c9 H locs ls hx hb hr hts hown hlocks hin hml htab hK hA hF hw hl
  have hl : lv_has ls 4 [(0, .ref o), (1, .int v), (2, .int i), (3, .int d)] := hl
  refine lv_iload_n hx hb dX4_tell_0 rfl (lv_at hl 1 rfl) ?_
  have hwc : wW G A9 s9.heap (([] : va_W) ++ (([] : va_W) ++ (wRw G r rs ++ (wOb G (o, x.1, y.1, r.1, b.1) so)))) H locs := hw
  refine x_callv (u := ([] : va_W)) (w := ([] : va_W)) (v := wRw G r rs ++ (wOb G (o, x.1, y.1, r.1, b.1) so)) (vx_runS (As := [.int v]) (rest := []) ⟨hx, hb, hml, hown, hts⟩ (c_reqVar l G hst X v H.size) (va_cwS 1 hts gX4_tell_X4_requireVariant rfl rfl rfl (by decide +kernel) ⟨Nat.le_of_ble_eq_true rfl, Nat.le_of_ble_eq_true rfl⟩) (x_preS hK hF hA hwc) rfl rfl hl.1 rfl (lv_room (Nat.le_of_ble_eq_true rfl)) dX4_tell_1 ⟨Nat.le_of_ble_eq_true rfl, Nat.le_of_ble_eq_true rfl⟩) hwc hA rfl rfl htab hlocks hK (fun E hE => by simp only [exTell, xo, hE]) rfl (Nat.le_of_ble_eq_true rfl) (Nat.le_of_ble_eq_true rfl) (fun n_1 H locs hw => ?_)
  have n_1 : exVar v = none := n_1
  have hw : wW G A9 s9.heap (wRw G r rs ++ (wOb G (o, x.1, y.1, r.1, b.1) so)) H locs := hw
  have hv_1 : iN v < 4 := exVar_lt n_1
  refine lv_iload_n hx hb dX4_tell_4 rfl (lv_at hl 3 rfl) ?_
  have hwc : wW G A9 s9.heap (([] : va_W) ++ (([] : va_W) ++ (wRw G r rs ++ (wOb G (o, x.1, y.1, r.1, b.1) so)))) H locs := hw
  refine x_callv (u := ([] : va_W)) (w := ([] : va_W)) (v := wRw G r rs ++ (wOb G (o, x.1, y.1, r.1, b.1) so)) (vx_runS (As := [.int d]) (rest := []) ⟨hx, hb, hml, hown, hts⟩ (c_reqReach l G hst X d H.size) (va_cwS 1 hts gX4_tell_X4_requireReach rfl rfl rfl (by decide +kernel) ⟨Nat.le_of_ble_eq_true rfl, Nat.le_of_ble_eq_true rfl⟩) (x_preS hK hF hA hwc) rfl rfl hl.1 rfl (lv_room (Nat.le_of_ble_eq_true rfl)) dX4_tell_5 ⟨Nat.le_of_ble_eq_true rfl, Nat.le_of_ble_eq_true rfl⟩) hwc hA rfl rfl htab hlocks hK (fun E hE => by simp only [exTell, xo, hE, n_1]) rfl (Nat.le_of_ble_eq_true rfl) (Nat.le_of_ble_eq_true rfl) (fun n_5 H locs hw => ?_)
  have n_5 : exReach d = none := n_5
  have hw : wW G A9 s9.heap (wRw G r rs ++ (wOb G (o, x.1, y.1, r.1, b.1) so)) H locs := hw
  refine lv_aload_n hx hb dX4_tell_8 rfl (lv_at hl 0 rfl) ?_
  refine lv_iload_n hx hb dX4_tell_9 rfl (lv_at hl 2 rfl) ?_
  have hwc : wW G A9 s9.heap (([] : va_W) ++ ((wRw G r rs ++ (wOb G (o, x.1, y.1, r.1, b.1) so)) ++ ([] : va_W))) H locs := hw
  refine x_callv (u := ([] : va_W)) (w := wRw G r rs ++ (wOb G (o, x.1, y.1, r.1, b.1) so)) (v := ([] : va_W)) (vx_runV (As := [.int i]) (rest := []) ⟨hx, hb, hml, hown, hts⟩ (c_reqWish l G hst X r rs so o x y b i H.size) (cwV 1 hts gX4_tell_X4_requireWish rfl rfl rfl (by decide +kernel) ⟨Nat.le_of_ble_eq_true rfl, Nat.le_of_ble_eq_true rfl⟩) (x_preV (ci := 4) (q0 := 11) hK hF hA hwc rfl rfl rfl) rfl rfl hl.1 rfl (lv_room (Nat.le_of_ble_eq_true rfl)) dX4_tell_10 ⟨Nat.le_of_ble_eq_true rfl, Nat.le_of_ble_eq_true rfl⟩) hwc hA rfl rfl htab hlocks hK (fun E hE => by simp only [exTell, xo, hE, n_1, n_5]) rfl (Nat.le_of_ble_eq_true rfl) (Nat.le_of_ble_eq_true rfl) (fun n_10 H locs hw => ?_)
  have n_10 : exIn rs.1 i = none := n_10
  have hw : wW G A9 s9.heap (wRw G r rs ++ (wOb G (o, x.1, y.1, r.1, b.1) so)) H locs := hw
  have hp_10 : iN i < rs.1 := exIn_lt (by omega) n_10
  refine lv_aload_n hx hb dX4_tell_13 rfl (lv_at hl 0 rfl) ?_
  refine lv_iload_n hx hb dX4_tell_14 rfl (lv_at hl 2 rfl) ?_
  refine r_top (y := nI (iN i)) (nI_iN _) ?_
  have hwc : wW G A9 s9.heap (([] : va_W) ++ ((wRw G r rs ++ (wOb G (o, x.1, y.1, r.1, b.1) so)) ++ ([] : va_W))) H locs := hw
  refine x_callv (u := ([] : va_W)) (w := wRw G r rs ++ (wOb G (o, x.1, y.1, r.1, b.1) so)) (v := ([] : va_W)) (vx_runV (As := [.int (nI (iN i))]) (rest := []) ⟨hx, hb, hml, hown, hts⟩ (c_reqSized l G hst X r rs so o x y b (iN i) (by first | assumption | omega | decide) H.size) (cwV 1 hts gX4_tell_X4_requireSized rfl rfl rfl (by decide +kernel) ⟨Nat.le_of_ble_eq_true rfl, Nat.le_of_ble_eq_true rfl⟩) (x_preV (ci := 4) (q0 := 11) hK hF hA hwc rfl rfl rfl) rfl rfl hl.1 rfl (lv_room (Nat.le_of_ble_eq_true rfl)) dX4_tell_15 ⟨Nat.le_of_ble_eq_true rfl, Nat.le_of_ble_eq_true rfl⟩) hwc hA rfl rfl htab hlocks hK (fun E hE => by simp only [exTell, xo, hE, n_1, n_5, n_10]) rfl (Nat.le_of_ble_eq_true rfl) (Nat.le_of_ble_eq_true rfl) (fun n_15 H locs hw => ?_)
  have n_15 : exSized (rs.2.1 (iN i)) = none := n_15
  have hw : wW G A9 s9.heap (wRw G r rs ++ (wOb G (o, x.1, y.1, r.1, b.1) so)) H locs := hw
  refine lv_aload_n hx hb dX4_tell_18 rfl (lv_at hl 0 rfl) ?_
  refine r_get (ci := 4) (v := .ref r.1) (C := RX4) (T := TX4) (N := 6) hx hb hts wiX4_tell_tell_X4 hown hK hw 11 rfl rfl 2 (by decide) wmX4_tell_tell_0 (fun _ h9 => h9) rfl dX4_tell_19 ?_
  refine r_get (ci := 3) (v := .ref r.2.2.2.2.2.2.1) (C := RX3) (T := TX3) (N := 7) hx hb hts wiX4_tell_tell_X3 hown hK hw 0 rfl rfl 6 (by decide) wmX4_tell_tell_1 (fun _ h9 => h9) rfl dX4_tell_22 ?_
  refine lv_iload_n hx hb dX4_tell_25 rfl (lv_at hl 1 rfl) ?_
  refine r_top (y := nI (iN v)) (nI_iN _) ?_
  refine r_aldM (v := r.2.2.2.2.2.2.2 (iN v)) hx hb hK hw 6 rfl (iN v) rfl (by omega) (by decide) rfl dX4_tell_26 ?_
  refine lv_iload_n hx hb dX4_tell_27 rfl (lv_at hl 2 rfl) ?_
  refine r_top (y := nI (iN i)) (nI_iN _) ?_
  refine lv_iload_n hx hb dX4_tell_28 rfl (lv_at hl 3 rfl) ?_
  refine r_iast hx hb hK hw (7 + (iN v)) (rw_atV (by omega)) (iN i) rfl (by omega) (by decide) dX4_tell_29 (ws' := wRw G r (rs.1, rs.2.1, rs.2.2.1, rs.2.2.2.1, rs.2.2.2.2.1, rs.2.2.2.2.2.1, (updF rs.2.2.2.2.2.2 (iN v) (upd (rs.2.2.2.2.2.2 (iN v)) (iN i) d))) ++ (wOb G (o, x.1, y.1, r.1, b.1) so)) (rw_setV (G := G) (a := r) (r := rs) (f := (upd (rs.2.2.2.2.2.2 (iN v)) (iN i) d)) (v := (iN v)) (by omega)) (fun H locs hw => ?_)
  refine lv_aload_n hx hb dX4_tell_30 rfl (lv_at hl 0 rfl) ?_
  refine r_get (ci := 4) (v := .ref r.1) (C := RX4) (T := TX4) (N := 6) hx hb hts wiX4_tell_tell_X4 hown hK hw 11 rfl rfl 2 (by decide) wmX4_tell_tell_0 (fun _ h9 => h9) rfl dX4_tell_31 ?_
  refine lv_iload_n hx hb dX4_tell_34 rfl (lv_at hl 1 rfl) ?_
  refine r_top (y := nI (iN v)) (nI_iN _) ?_
  have hwc : wW G A9 s9.heap (([] : va_W) ++ ((wRw G r (rs.1, rs.2.1, rs.2.2.1, rs.2.2.2.1, rs.2.2.2.2.1, rs.2.2.2.2.2.1, (updF rs.2.2.2.2.2.2 (iN v) (upd (rs.2.2.2.2.2.2 (iN v)) (iN i) d)))) ++ (wOb G (o, x.1, y.1, r.1, b.1) so))) H locs := hw
  refine r_calli (res := (rwCountK (rs.1, rs.2.1, rs.2.2.1, rs.2.2.2.1, rs.2.2.2.2.1, rs.2.2.2.2.2.1, (updF rs.2.2.2.2.2.2 (iN v) (upd (rs.2.2.2.2.2.2 (iN v)) (iN i) d))) (iN v) rs.1)) (u := ([] : va_W)) (w := wRw G r (rs.1, rs.2.1, rs.2.2.1, rs.2.2.2.1, rs.2.2.2.2.1, rs.2.2.2.2.2.1, (updF rs.2.2.2.2.2.2 (iN v) (upd (rs.2.2.2.2.2.2 (iN v)) (iN i) d)))) (v := wOb G (o, x.1, y.1, r.1, b.1) so) (va_runV (As := [.int (nI (iN v))]) (rest := []) ⟨hx, hb, hml, hown, hts⟩ (c_countTold l G r (rs.1, rs.2.1, rs.2.2.1, rs.2.2.2.1, rs.2.2.2.2.1, rs.2.2.2.2.2.1, (updF rs.2.2.2.2.2.2 (iN v) (upd (rs.2.2.2.2.2.2 (iN v)) (iN i) d))) (iN v) (by first | assumption | omega | decide) (by first | assumption | omega | decide) H.size) (cwV 1 hts gX4_tell_X3_countTold rfl rfl rfl (by decide +kernel) ⟨Nat.le_of_ble_eq_true rfl, Nat.le_of_ble_eq_true rfl⟩) (r_preV (ci := 3) (q0 := 0) hK hwc rfl rfl rfl) rfl rfl hl.1 rfl (lv_room (Nat.le_of_ble_eq_true rfl)) dX4_tell_35 ⟨Nat.le_of_ble_eq_true rfl, Nat.le_of_ble_eq_true rfl⟩) hwc hA rfl rfl (fun H locs hw => ?_)
  have hw : wW G A9 s9.heap (wRw G r (rs.1, rs.2.1, rs.2.2.1, rs.2.2.2.1, rs.2.2.2.2.1, rs.2.2.2.2.2.1, (updF rs.2.2.2.2.2.2 (iN v) (upd (rs.2.2.2.2.2.2 (iN v)) (iN i) d))) ++ (wOb G (o, x.1, y.1, r.1, b.1) so)) H locs := hw
  exact x_iret hx hb hr hlocks hK hw (Nat.le_of_ble_eq_true rfl) (Nat.le_of_ble_eq_true rfl) dX4_tell_38 (by simp only [exTell, xo, n_1, n_5, n_10, n_15]) (show (rwCountK (rs.1, rs.2.1, rs.2.2.1, rs.2.2.2.1, rs.2.2.2.2.1, rs.2.2.2.2.2.1, (updF rs.2.2.2.2.2.2 (iN v) (upd (rs.2.2.2.2.2.2 (iN v)) (iN i) d))) (iN v) rs.1 : Int32) = rwCountK (rs.1, rs.2.1, rs.2.2.1, rs.2.2.2.1, rs.2.2.2.2.1, rs.2.2.2.2.2.1, updF rs.2.2.2.2.2.2 (iN v) (upd (rs.2.2.2.2.2.2 (iN v)) (iN i) d)) (iN v) rs.1 by rfl) rfl

theorem wiX4_choose_choose_X4 : ∀ w ∈ wsX40, w ∈ wsX4_choose := by decide +kernel
theorem wmX4_choose_choose_0 : Cond.fieldLink RX4 67 "PartSketch" "settled" "Z" ∈ wsX4_choose := by decide +kernel
theorem wmX4_choose_choose_1 : Cond.fieldLink RX4 22 "PartSketch" "rows" "LPartSketch$WishRows;" ∈ wsX4_choose := by decide +kernel
set_option maxHeartbeats 4000000 in
set_option maxRecDepth 100000 in
/-- choose -/
theorem c_choose (l : Launch) (G : gT) (hst : l.stackTraces = false) (X : Nat → Nat) (r : aRw) (rs : tRw) (so : tOb) (o : Nat) (x : aAx) (y : aAx) (b : aBd) (v : Int32) (hok : skOk so rs) (sz : Nat) : XI l yX4_choose wsX4_choose ({ frames := 7, cells := 1, slots := 6, locals := 110 }) G X [.ref o, .int v] (wRw G r rs ++ (wOb G (o, x.1, y.1, r.1, b.1) so)) (wRw G r (rs.1, rs.2.1, rs.2.2.1, rs.2.2.2.1, (rwTakeK rs (iN v) rs.1).2, rs.2.2.2.2.2.1, rs.2.2.2.2.2.2) ++ (wOb G (o, x.1, y.1, r.1, b.1) (so.1, 0))) sz (exVar v) ((rwTakeK rs (iN v) rs.1).1) 1 6 := by
  have hok0 := hok
  obtain ⟨hnp, hct, hon⟩ := hok
  refine x_of (Qc := fun A9 => (va_Qi (fun (r9 : Int32) (_ : Unit) => (exVar v) = none ∧ r9 = ((rwTakeK rs (iN v) rs.1).1)) (fun _ t9 => wPost G A9 (wRw G r (rs.1, rs.2.1, rs.2.2.1, rs.2.2.2.1, (rwTakeK rs (iN v) rs.1).2, rs.2.2.2.2.2.1, rs.2.2.2.2.2.2) ++ (wOb G (o, x.1, y.1, r.1, b.1) (so.1, 0))) t9) A9)) (XC := fun A9 => (xC G A9 (wRw G r rs ++ (wOb G (o, x.1, y.1, r.1, b.1) so)) (exVar v))) (cc := cX4_choose) (maxL := 2) (ret := (some .int)) (by decide) rfl (Nat.le_of_ble_eq_true rfl) ?_
  intro p9 e9 s9 m9 A9 be9 mt9 c9 H locs ls hx hb hr hts hown hlocks hin hml htab hK hA hF hw hl
  have hl : lv_has ls 2 [(0, .ref o), (1, .int v)] := hl
  refine lv_iload_n hx hb dX4_choose_0 rfl (lv_at hl 1 rfl) ?_
  have hwc : wW G A9 s9.heap (([] : va_W) ++ (([] : va_W) ++ (wRw G r rs ++ (wOb G (o, x.1, y.1, r.1, b.1) so)))) H locs := hw
  refine x_callv (u := ([] : va_W)) (w := ([] : va_W)) (v := wRw G r rs ++ (wOb G (o, x.1, y.1, r.1, b.1) so)) (vx_runS (As := [.int v]) (rest := []) ⟨hx, hb, hml, hown, hts⟩ (c_reqVar l G hst X v H.size) (va_cwS 1 hts gX4_choose_X4_requireVariant rfl rfl rfl (by decide +kernel) ⟨Nat.le_of_ble_eq_true rfl, Nat.le_of_ble_eq_true rfl⟩) (x_preS hK hF hA hwc) rfl rfl hl.1 rfl (lv_room (Nat.le_of_ble_eq_true rfl)) dX4_choose_1 ⟨Nat.le_of_ble_eq_true rfl, Nat.le_of_ble_eq_true rfl⟩) hwc hA rfl rfl htab hlocks hK (fun E hE => by simp only [xo, hE]) rfl (Nat.le_of_ble_eq_true rfl) (Nat.le_of_ble_eq_true rfl) (fun n_1 H locs hw => ?_)
  have n_1 : exVar v = none := n_1
  have hw : wW G A9 s9.heap (wRw G r rs ++ (wOb G (o, x.1, y.1, r.1, b.1) so)) H locs := hw
  have hv_1 : iN v < 4 := exVar_lt n_1
  refine lv_aload_n hx hb dX4_choose_4 rfl (lv_at hl 0 rfl) ?_
  refine lv_iconst (v := 0) hx hb dX4_choose_5 (by decide) ?_
  refine r_put (ci := 4) (v := .int 0) (ty := .boolean) (C := RX4) (T := TX4) (N := 6) hx hb hts wiX4_choose_choose_X4 tyX4 tyX4_ok nmX4 hown hK hw 11 rfl rfl 5 (by decide) wmX4_choose_choose_0 (fun _ h9 => h9) rfl (by decide +kernel) (by rfl) (by rfl) (Nat.le_of_ble_eq_true rfl) dX4_choose_6 (ws' := wRw G r rs ++ (wOb G (o, x.1, y.1, r.1, b.1) (so.1, 0))) rfl (fun H locs hw => ?_)
  refine lv_aload_n hx hb dX4_choose_9 rfl (lv_at hl 0 rfl) ?_
  refine r_get (ci := 4) (v := .ref r.1) (C := RX4) (T := TX4) (N := 6) hx hb hts wiX4_choose_choose_X4 hown hK hw 11 rfl rfl 2 (by decide) wmX4_choose_choose_1 (fun _ h9 => h9) rfl dX4_choose_10 ?_
  refine lv_iload_n hx hb dX4_choose_13 rfl (lv_at hl 1 rfl) ?_
  refine r_top (y := nI (iN v)) (nI_iN _) ?_
  have hwc : wW G A9 s9.heap (([] : va_W) ++ ((wRw G r rs) ++ (wOb G (o, x.1, y.1, r.1, b.1) (so.1, 0)))) H locs := hw
  refine r_calli (res := ((rwTakeK rs (iN v) rs.1).1)) (u := ([] : va_W)) (w := wRw G r rs) (v := wOb G (o, x.1, y.1, r.1, b.1) (so.1, 0)) (va_runV (As := [.int (nI (iN v))]) (rest := []) ⟨hx, hb, hml, hown, hts⟩ (c_takeOver l G r rs (iN v) (by first | assumption | omega | decide) (by first | assumption | omega | decide) H.size) (cwV 1 hts gX4_choose_X3_takeOver rfl rfl rfl (by decide +kernel) ⟨Nat.le_of_ble_eq_true rfl, Nat.le_of_ble_eq_true rfl⟩) (r_preV (ci := 3) (q0 := 0) hK hwc rfl rfl rfl) rfl rfl hl.1 rfl (lv_room (Nat.le_of_ble_eq_true rfl)) dX4_choose_14 ⟨Nat.le_of_ble_eq_true rfl, Nat.le_of_ble_eq_true rfl⟩) hwc hA rfl rfl (fun H locs hw => ?_)
  have hw : wW G A9 s9.heap (wRw G r (rs.1, rs.2.1, rs.2.2.1, rs.2.2.2.1, (rwTakeK rs (iN v) rs.1).2, rs.2.2.2.2.2.1, rs.2.2.2.2.2.2) ++ (wOb G (o, x.1, y.1, r.1, b.1) (so.1, 0))) H locs := hw
  exact x_iret hx hb hr hlocks hK hw (Nat.le_of_ble_eq_true rfl) (Nat.le_of_ble_eq_true rfl) dX4_choose_17 (n_1) (show ((rwTakeK rs (iN v) rs.1).1 : Int32) = (rwTakeK rs (iN v) rs.1).1 by rfl) rfl

theorem bdOk_base {b : tBd} {i j : Nat} {h : Int32} (z : bdOk b.2.2.2.2) (hi : i ≤ 15) (hj : j ≤ 15) : bdOk (skBase b i j h).2.2.2.2 := fun q hq => by
  by_cases e : q = 0
  · subst e
    have e0 : (skBase b i j h).2.2.2.2 0 = (i, j, h, none, (b.2.2.2.2 0).2.2.2.2) := by
      unfold skBase
      simp only [updB]
      rfl
    rw [e0]
    exact ⟨hi, hj, fun j0 h0 => by cases h0⟩
  · have e1 : (skBase b i j h).2.2.2.2 q = b.2.2.2.2 q := updB_n e
    rw [e1]; exact z q hq
theorem x_in1 {n : Nat} {t : Int32} (hn : n ≤ 8) (h : exIn n t = none) : iN (1 + t) < 9 := by
  have h1 := exIn_lt (by omega) h
  rw [nI_iN t, show (1 : Int32) = nI 1 from rfl, nI_add, iN_nI (by omega)]
  omega
/-- each block's failing is a truth value -/
def bd01 (T : Nat → tBk) : Prop := ∀ i, (T i).2.2.2.2.2.2.2.2.2 = 0 ∨ (T i).2.2.2.2.2.2.2.2.2 = 1
theorem bkFl01 (b : tBk) : bkFl b = 0 ∨ bkFl b = 1 := by
  unfold bkFl bkFlat
  split
  · exact Or.inr rfl
  · split
    · exact Or.inr rfl
    · exact Or.inl rfl
theorem bkFail01 (fl : Int32) (b c : tBk) (bot h : Int32) : bkFail fl b c bot h = 0 ∨ bkFail fl b c bot h = 1 := by
  unfold bkFail
  split
  · split
    · split
      · exact Or.inr rfl
      · split
        · exact Or.inl rfl
        · exact Or.inr rfl
    · exact Or.inr rfl
  · exact Or.inr rfl
theorem bkMeas01 (x y : tAx) (h : Int32) (T : Nat → tBk) (i : Nat) : (bkMeas x y h T i).2.2.2.2.2.2.2.2.2 = 0 ∨ (bkMeas x y h T i).2.2.2.2.2.2.2.2.2 = 1 := by
  unfold bkMeas
  split
  · exact bkFl01 _
  · exact bkFail01 _ _ _ _ _
theorem bdMeasK01 {x y : tAx} {T : Nat → tBk} (h : bd01 T) : ∀ k, bd01 (bdMeasK x y T k)
  | 0 => h
  | k + 1 => fun i => by
    by_cases e : i = k
    · subst e; rw [bdMeasK, updB_s]; exact bkMeas01 _ _ _ _ _
    · rw [bdMeasK, updB_n e]; exact bdMeasK01 h k i
theorem bdMeas01 {x y : tAx} {b : tBd} (h : bd01 b.2.2.2.2) : bd01 (bdMeas x y b).2.2.2.2 := by
  unfold bdMeas
  split
  · exact h
  · exact bdMeasK01 h _

theorem wiX4_setBase_setBase_X1 : ∀ w ∈ wsX10, w ∈ wsX4_setBase := by decide +kernel
theorem wiX4_setBase_setBase_X4 : ∀ w ∈ wsX40, w ∈ wsX4_setBase := by decide +kernel
theorem wmX4_setBase_setBase_0 : Cond.fieldLink RX4 29 "PartSketch" "body" "LPartSketch$Body;" ∈ wsX4_setBase := by decide +kernel
theorem wmX4_setBase_setBase_1 : Cond.fieldLink RX4 127 "PartSketch$Block" "failing" "Z" ∈ wsX4_setBase := by decide +kernel
set_option maxHeartbeats 4000000 in
set_option maxRecDepth 100000 in
/-- setBase -/
theorem c_setBase (l : Launch) (G : gT) (hst : l.stackTraces = false) (X : Nat → Nat) (r : aRw) (rs : tRw) (so : tOb) (x : aAx) (tx : tAx) (y : aAx) (ty : tAx) (b : aBd) (bs : tBd) (o : Nat) (i : Int32) (j : Int32) (h : Int32) (hok : skOk so rs) (hb8 : bs.2.1 ≤ 8) (hbk : bdOk bs.2.2.2.2) (sz : Nat) : XI l yX4_setBase wsX4_setBase ({ frames := 7, cells := 3, slots := 18, locals := 116 }) G X [.ref o, .int i, .int j, .int h] (wRw G r rs ++ (wOb G (o, x.1, y.1, r.1, b.1) so ++ (wAx G x tx ++ (wAx G y ty ++ (wBd G b bs))))) (wRw G r (rs.1, rs.2.1, rs.2.2.1, rs.2.2.2.1, rs.2.2.2.2.1, (skS so rs tx ty), rs.2.2.2.2.2.2) ++ (wOb G (o, x.1, y.1, r.1, b.1) (so.1, skF so) ++ (wAx G x (skX so rs tx ty) ++ (wAx G y (skY so rs tx ty) ++ (wBd G b (skB so rs tx ty (skBase bs (iN i) (iN j) h))))))) sz (exBase so.1 i j h) (if ((skB so rs tx ty (skBase bs (iN i) (iN j) h)).2.2.2.2 0).2.2.2.2.2.2.2.2.2 = 0 then 1 else 0) 3 18 := by
  have hok0 := hok
  obtain ⟨hnp, hct, hon⟩ := hok
  refine x_of (Qc := fun A9 => (va_Qi (fun (r9 : Int32) (_ : Unit) => (exBase so.1 i j h) = none ∧ r9 = (if ((skB so rs tx ty (skBase bs (iN i) (iN j) h)).2.2.2.2 0).2.2.2.2.2.2.2.2.2 = 0 then 1 else 0)) (fun _ t9 => wPost G A9 (wRw G r (rs.1, rs.2.1, rs.2.2.1, rs.2.2.2.1, rs.2.2.2.2.1, (skS so rs tx ty), rs.2.2.2.2.2.2) ++ (wOb G (o, x.1, y.1, r.1, b.1) (so.1, skF so) ++ (wAx G x (skX so rs tx ty) ++ (wAx G y (skY so rs tx ty) ++ (wBd G b (skB so rs tx ty (skBase bs (iN i) (iN j) h))))))) t9) A9)) (XC := fun A9 => (xC G A9 (wRw G r rs ++ (wOb G (o, x.1, y.1, r.1, b.1) so ++ (wAx G x tx ++ (wAx G y ty ++ (wBd G b bs))))) (exBase so.1 i j h))) (cc := cX4_setBase) (maxL := 4) (ret := (some .boolean)) (by decide) rfl (Nat.le_of_ble_eq_true rfl) ?_
  intro p9 e9 s9 m9 A9 be9 mt9 c9 H locs ls hx hb hr hts hown hlocks hin hml htab hK hA hF hw hl
  have hl : lv_has ls 4 [(0, .ref o), (1, .int i), (2, .int j), (3, .int h)] := hl
  refine lv_aload_n hx hb dX4_setBase_0 rfl (lv_at hl 0 rfl) ?_
  refine lv_iload_n hx hb dX4_setBase_1 rfl (lv_at hl 1 rfl) ?_
  have hwc : wW G A9 s9.heap ((wRw G r rs) ++ ((wOb G (o, x.1, y.1, r.1, b.1) so) ++ (wAx G x tx ++ (wAx G y ty ++ (wBd G b bs))))) H locs := hw
  refine x_callv (u := wRw G r rs) (w := wOb G (o, x.1, y.1, r.1, b.1) so) (v := wAx G x tx ++ (wAx G y ty ++ (wBd G b bs))) (vx_runV (As := [.int i]) (rest := []) ⟨hx, hb, hml, hown, hts⟩ (c_reqPoint l G hst X so o r x y b i H.size) (cwV 1 hts gX4_setBase_X4_requirePoint rfl rfl rfl (by decide +kernel) ⟨Nat.le_of_ble_eq_true rfl, Nat.le_of_ble_eq_true rfl⟩) (x_preV (ci := 4) (q0 := 11) hK hF hA hwc rfl rfl rfl) rfl rfl hl.1 rfl (lv_room (Nat.le_of_ble_eq_true rfl)) dX4_setBase_2 ⟨Nat.le_of_ble_eq_true rfl, Nat.le_of_ble_eq_true rfl⟩) hwc hA rfl rfl htab hlocks hK (fun E hE => by simp only [exBase, xo, hE]) rfl (Nat.le_of_ble_eq_true rfl) (Nat.le_of_ble_eq_true rfl) (fun n_2 H locs hw => ?_)
  have n_2 : exIn so.1 i = none := n_2
  have hw : wW G A9 s9.heap (wRw G r rs ++ (wOb G (o, x.1, y.1, r.1, b.1) so ++ (wAx G x tx ++ (wAx G y ty ++ (wBd G b bs))))) H locs := hw
  have hp_2 : iN i < so.1 := exIn_lt (by omega) n_2
  refine lv_aload_n hx hb dX4_setBase_5 rfl (lv_at hl 0 rfl) ?_
  refine lv_iload_n hx hb dX4_setBase_6 rfl (lv_at hl 2 rfl) ?_
  have hwc : wW G A9 s9.heap ((wRw G r rs) ++ ((wOb G (o, x.1, y.1, r.1, b.1) so) ++ (wAx G x tx ++ (wAx G y ty ++ (wBd G b bs))))) H locs := hw
  refine x_callv (u := wRw G r rs) (w := wOb G (o, x.1, y.1, r.1, b.1) so) (v := wAx G x tx ++ (wAx G y ty ++ (wBd G b bs))) (vx_runV (As := [.int j]) (rest := []) ⟨hx, hb, hml, hown, hts⟩ (c_reqPoint l G hst X so o r x y b j H.size) (cwV 1 hts gX4_setBase_X4_requirePoint rfl rfl rfl (by decide +kernel) ⟨Nat.le_of_ble_eq_true rfl, Nat.le_of_ble_eq_true rfl⟩) (x_preV (ci := 4) (q0 := 11) hK hF hA hwc rfl rfl rfl) rfl rfl hl.1 rfl (lv_room (Nat.le_of_ble_eq_true rfl)) dX4_setBase_7 ⟨Nat.le_of_ble_eq_true rfl, Nat.le_of_ble_eq_true rfl⟩) hwc hA rfl rfl htab hlocks hK (fun E hE => by simp only [exBase, xo, hE, n_2]) rfl (Nat.le_of_ble_eq_true rfl) (Nat.le_of_ble_eq_true rfl) (fun n_7 H locs hw => ?_)
  have n_7 : exIn so.1 j = none := n_7
  have hw : wW G A9 s9.heap (wRw G r rs ++ (wOb G (o, x.1, y.1, r.1, b.1) so ++ (wAx G x tx ++ (wAx G y ty ++ (wBd G b bs))))) H locs := hw
  have hp_7 : iN j < so.1 := exIn_lt (by omega) n_7
  refine lv_iload_n hx hb dX4_setBase_10 rfl (lv_at hl 3 rfl) ?_
  have hwc : wW G A9 s9.heap (([] : va_W) ++ (([] : va_W) ++ (wRw G r rs ++ (wOb G (o, x.1, y.1, r.1, b.1) so ++ (wAx G x tx ++ (wAx G y ty ++ (wBd G b bs))))))) H locs := hw
  refine x_callv (u := ([] : va_W)) (w := ([] : va_W)) (v := wRw G r rs ++ (wOb G (o, x.1, y.1, r.1, b.1) so ++ (wAx G x tx ++ (wAx G y ty ++ (wBd G b bs))))) (vx_runS (As := [.int h]) (rest := []) ⟨hx, hb, hml, hown, hts⟩ (c_reqDepth l G hst X h H.size) (va_cwS 1 hts gX4_setBase_X4_requireDepth rfl rfl rfl (by decide +kernel) ⟨Nat.le_of_ble_eq_true rfl, Nat.le_of_ble_eq_true rfl⟩) (x_preS hK hF hA hwc) rfl rfl hl.1 rfl (lv_room (Nat.le_of_ble_eq_true rfl)) dX4_setBase_11 ⟨Nat.le_of_ble_eq_true rfl, Nat.le_of_ble_eq_true rfl⟩) hwc hA rfl rfl htab hlocks hK (fun E hE => by simp only [exBase, xo, hE, n_2, n_7]) rfl (Nat.le_of_ble_eq_true rfl) (Nat.le_of_ble_eq_true rfl) (fun n_11 H locs hw => ?_)
  have n_11 : exDepth h = none := n_11
  have hw : wW G A9 s9.heap (wRw G r rs ++ (wOb G (o, x.1, y.1, r.1, b.1) so ++ (wAx G x tx ++ (wAx G y ty ++ (wBd G b bs))))) H locs := hw
  refine lv_aload_n hx hb dX4_setBase_14 rfl (lv_at hl 0 rfl) ?_
  refine r_get (ci := 4) (v := .ref b.1) (C := RX4) (T := TX4) (N := 6) hx hb hts wiX4_setBase_setBase_X4 hown hK hw 11 rfl rfl 3 (by decide) wmX4_setBase_setBase_0 (fun _ h9 => h9) rfl dX4_setBase_15 ?_
  refine lv_iload_n hx hb dX4_setBase_18 rfl (lv_at hl 1 rfl) ?_
  refine r_top (y := nI (iN i)) (nI_iN _) ?_
  refine lv_iload_n hx hb dX4_setBase_19 rfl (lv_at hl 2 rfl) ?_
  refine r_top (y := nI (iN j)) (nI_iN _) ?_
  refine lv_iload_n hx hb dX4_setBase_20 rfl (lv_at hl 3 rfl) ?_
  have hwc : wW G A9 s9.heap ((wRw G r rs ++ (wOb G (o, x.1, y.1, r.1, b.1) so ++ (wAx G x tx ++ (wAx G y ty)))) ++ ((wBd G b bs) ++ ([] : va_W))) H locs := hw
  refine r_callv (u := wRw G r rs ++ (wOb G (o, x.1, y.1, r.1, b.1) so ++ (wAx G x tx ++ (wAx G y ty)))) (w := wBd G b bs) (v := ([] : va_W)) (va_runV (As := [.int (nI (iN i)), .int (nI (iN j)), .int h]) (rest := []) ⟨hx, hb, hml, hown, hts⟩ (c_layBase l G b bs (iN i) (iN j) h H.size) (cwV 3 hts gX4_setBase_X2_layBase rfl rfl rfl (by decide +kernel) ⟨Nat.le_of_ble_eq_true rfl, Nat.le_of_ble_eq_true rfl⟩) (r_preV (ci := 2) (q0 := 20) hK hwc rfl rfl rfl) rfl rfl hl.1 rfl (lv_room (Nat.le_of_ble_eq_true rfl)) dX4_setBase_21 ⟨Nat.le_of_ble_eq_true rfl, Nat.le_of_ble_eq_true rfl⟩) hwc hA rfl rfl (fun H locs hw => ?_)
  have hw : wW G A9 s9.heap (wRw G r rs ++ (wOb G (o, x.1, y.1, r.1, b.1) so ++ (wAx G x tx ++ (wAx G y ty ++ (wBd G b (1, bs.2.1, bs.2.2.1, bs.2.2.2.1, (updB bs.2.2.2.2 0 ((iN i), (iN j), h, none, (bs.2.2.2.2 0).2.2.2.2.1, (bs.2.2.2.2 0).2.2.2.2.2.1, (bs.2.2.2.2 0).2.2.2.2.2.2.1, (bs.2.2.2.2 0).2.2.2.2.2.2.2.1, (bs.2.2.2.2 0).2.2.2.2.2.2.2.2.1, (bs.2.2.2.2 0).2.2.2.2.2.2.2.2.2)))))))) H locs := hw
  refine lv_aload_n hx hb dX4_setBase_24 rfl (lv_at hl 0 rfl) ?_
  have hwc : wW G A9 s9.heap (([] : va_W) ++ ((wRw G r rs ++ (wOb G (o, x.1, y.1, r.1, b.1) so ++ (wAx G x tx ++ (wAx G y ty ++ (wBd G b (1, bs.2.1, bs.2.2.1, bs.2.2.2.1, (updB bs.2.2.2.2 0 ((iN i), (iN j), h, none, (bs.2.2.2.2 0).2.2.2.2.1, (bs.2.2.2.2 0).2.2.2.2.2.1, (bs.2.2.2.2 0).2.2.2.2.2.2.1, (bs.2.2.2.2 0).2.2.2.2.2.2.2.1, (bs.2.2.2.2 0).2.2.2.2.2.2.2.2.1, (bs.2.2.2.2 0).2.2.2.2.2.2.2.2.2)))))))) ++ ([] : va_W))) H locs := hw
  refine r_callv (u := ([] : va_W)) (w := wRw G r rs ++ (wOb G (o, x.1, y.1, r.1, b.1) so ++ (wAx G x tx ++ (wAx G y ty ++ (wBd G b (1, bs.2.1, bs.2.2.1, bs.2.2.2.1, (updB bs.2.2.2.2 0 ((iN i), (iN j), h, none, (bs.2.2.2.2 0).2.2.2.2.1, (bs.2.2.2.2 0).2.2.2.2.2.1, (bs.2.2.2.2 0).2.2.2.2.2.2.1, (bs.2.2.2.2 0).2.2.2.2.2.2.2.1, (bs.2.2.2.2 0).2.2.2.2.2.2.2.2.1, (bs.2.2.2.2 0).2.2.2.2.2.2.2.2.2)))))))) (v := ([] : va_W)) (va_runV (As := []) (rest := []) ⟨hx, hb, hml, hown, hts⟩ (c_skmeas l G r rs so x tx y ty b (1, bs.2.1, bs.2.2.1, bs.2.2.2.1, (updB bs.2.2.2.2 0 ((iN i), (iN j), h, none, (bs.2.2.2.2 0).2.2.2.2.1, (bs.2.2.2.2 0).2.2.2.2.2.1, (bs.2.2.2.2 0).2.2.2.2.2.2.1, (bs.2.2.2.2 0).2.2.2.2.2.2.2.1, (bs.2.2.2.2 0).2.2.2.2.2.2.2.2.1, (bs.2.2.2.2 0).2.2.2.2.2.2.2.2.2))) o (by first | assumption | omega | decide) hb8 (bdOk_base hbk (by omega) (by omega)) H.size) (cwV 0 hts gX4_setBase_X4_measure rfl rfl rfl (by decide +kernel) ⟨Nat.le_of_ble_eq_true rfl, Nat.le_of_ble_eq_true rfl⟩) (r_preV (ci := 4) (q0 := 11) hK hwc rfl rfl rfl) rfl rfl hl.1 rfl (lv_room (Nat.le_of_ble_eq_true rfl)) dX4_setBase_25 ⟨Nat.le_of_ble_eq_true rfl, Nat.le_of_ble_eq_true rfl⟩) hwc hA rfl rfl (fun H locs hw => ?_)
  have hw : wW G A9 s9.heap (wRw G r (rs.1, rs.2.1, rs.2.2.1, rs.2.2.2.1, rs.2.2.2.2.1, (skS so rs tx ty), rs.2.2.2.2.2.2) ++ (wOb G (o, x.1, y.1, r.1, b.1) (so.1, skF so) ++ (wAx G x (skX so rs tx ty) ++ (wAx G y (skY so rs tx ty) ++ (wBd G b (skB so rs tx ty (1, bs.2.1, bs.2.2.1, bs.2.2.2.1, (updB bs.2.2.2.2 0 ((iN i), (iN j), h, none, (bs.2.2.2.2 0).2.2.2.2.1, (bs.2.2.2.2 0).2.2.2.2.2.1, (bs.2.2.2.2 0).2.2.2.2.2.2.1, (bs.2.2.2.2 0).2.2.2.2.2.2.2.1, (bs.2.2.2.2 0).2.2.2.2.2.2.2.2.1, (bs.2.2.2.2 0).2.2.2.2.2.2.2.2.2))))))))) H locs := hw
  refine lv_aload_n hx hb dX4_setBase_28 rfl (lv_at hl 0 rfl) ?_
  refine r_get (ci := 4) (v := .ref b.1) (C := RX4) (T := TX4) (N := 6) hx hb hts wiX4_setBase_setBase_X4 hown hK hw 11 rfl rfl 3 (by decide) wmX4_setBase_setBase_0 (fun _ h9 => h9) rfl dX4_setBase_29 ?_
  have hwc : wW G A9 s9.heap ((wRw G r (rs.1, rs.2.1, rs.2.2.1, rs.2.2.2.1, rs.2.2.2.2.1, (skS so rs tx ty), rs.2.2.2.2.2.2) ++ (wOb G (o, x.1, y.1, r.1, b.1) (so.1, skF so) ++ (wAx G x (skX so rs tx ty) ++ (wAx G y (skY so rs tx ty))))) ++ ((wBd G b (skB so rs tx ty (1, bs.2.1, bs.2.2.1, bs.2.2.2.1, (updB bs.2.2.2.2 0 ((iN i), (iN j), h, none, (bs.2.2.2.2 0).2.2.2.2.1, (bs.2.2.2.2 0).2.2.2.2.2.1, (bs.2.2.2.2 0).2.2.2.2.2.2.1, (bs.2.2.2.2 0).2.2.2.2.2.2.2.1, (bs.2.2.2.2 0).2.2.2.2.2.2.2.2.1, (bs.2.2.2.2 0).2.2.2.2.2.2.2.2.2))))) ++ ([] : va_W))) H locs := hw
  refine r_callr (res := (b.2.2.2.2 0)) (u := wRw G r (rs.1, rs.2.1, rs.2.2.1, rs.2.2.2.1, rs.2.2.2.2.1, (skS so rs tx ty), rs.2.2.2.2.2.2) ++ (wOb G (o, x.1, y.1, r.1, b.1) (so.1, skF so) ++ (wAx G x (skX so rs tx ty) ++ (wAx G y (skY so rs tx ty))))) (w := wBd G b (skB so rs tx ty (1, bs.2.1, bs.2.2.1, bs.2.2.2.1, (updB bs.2.2.2.2 0 ((iN i), (iN j), h, none, (bs.2.2.2.2 0).2.2.2.2.1, (bs.2.2.2.2 0).2.2.2.2.2.1, (bs.2.2.2.2 0).2.2.2.2.2.2.1, (bs.2.2.2.2 0).2.2.2.2.2.2.2.1, (bs.2.2.2.2 0).2.2.2.2.2.2.2.2.1, (bs.2.2.2.2 0).2.2.2.2.2.2.2.2.2))))) (v := ([] : va_W)) (va_runV (As := []) (rest := []) ⟨hx, hb, hml, hown, hts⟩ (c_base l G b (skB so rs tx ty (1, bs.2.1, bs.2.2.1, bs.2.2.2.1, (updB bs.2.2.2.2 0 ((iN i), (iN j), h, none, (bs.2.2.2.2 0).2.2.2.2.1, (bs.2.2.2.2 0).2.2.2.2.2.1, (bs.2.2.2.2 0).2.2.2.2.2.2.1, (bs.2.2.2.2 0).2.2.2.2.2.2.2.1, (bs.2.2.2.2 0).2.2.2.2.2.2.2.2.1, (bs.2.2.2.2 0).2.2.2.2.2.2.2.2.2)))) H.size) (cwV 0 hts gX4_setBase_X2_base rfl rfl rfl (by decide +kernel) ⟨Nat.le_of_ble_eq_true rfl, Nat.le_of_ble_eq_true rfl⟩) (r_preV (ci := 2) (q0 := 20) hK hwc rfl rfl rfl) rfl rfl hl.1 rfl (lv_room (Nat.le_of_ble_eq_true rfl)) dX4_setBase_32 ⟨Nat.le_of_ble_eq_true rfl, Nat.le_of_ble_eq_true rfl⟩) hwc hA rfl rfl (fun H locs hw => ?_)
  have hw : wW G A9 s9.heap (wRw G r (rs.1, rs.2.1, rs.2.2.1, rs.2.2.2.1, rs.2.2.2.2.1, (skS so rs tx ty), rs.2.2.2.2.2.2) ++ (wOb G (o, x.1, y.1, r.1, b.1) (so.1, skF so) ++ (wAx G x (skX so rs tx ty) ++ (wAx G y (skY so rs tx ty) ++ (wBd G b (skB so rs tx ty (1, bs.2.1, bs.2.2.1, bs.2.2.2.1, (updB bs.2.2.2.2 0 ((iN i), (iN j), h, none, (bs.2.2.2.2 0).2.2.2.2.1, (bs.2.2.2.2 0).2.2.2.2.2.1, (bs.2.2.2.2 0).2.2.2.2.2.2.1, (bs.2.2.2.2 0).2.2.2.2.2.2.2.1, (bs.2.2.2.2 0).2.2.2.2.2.2.2.2.1, (bs.2.2.2.2 0).2.2.2.2.2.2.2.2.2))))))))) H locs := hw
  refine r_get (ci := 1) (v := .int ((((skB so rs tx ty (1, bs.2.1, bs.2.2.1, bs.2.2.2.1, (updB bs.2.2.2.2 0 ((iN i), (iN j), h, none, (bs.2.2.2.2 0).2.2.2.2.1, (bs.2.2.2.2 0).2.2.2.2.2.1, (bs.2.2.2.2 0).2.2.2.2.2.2.1, (bs.2.2.2.2 0).2.2.2.2.2.2.2.1, (bs.2.2.2.2 0).2.2.2.2.2.2.2.2.1, (bs.2.2.2.2 0).2.2.2.2.2.2.2.2.2)))).2.2.2.2) 0).2.2.2.2.2.2.2.2.2)) (C := RX1) (T := TX1) (N := 10) hx hb hts wiX4_setBase_setBase_X1 hown hK hw (24 + 0) ((at_skip (n := 11) (j := 13 + 0) rfl (by omega)).trans ((at_skip (n := 1) (j := 12 + 0) rfl (by omega)).trans ((at_skip (n := 4) (j := 8 + 0) rfl (by omega)).trans ((at_skip (n := 4) (j := 4 + 0) rfl (by omega)).trans (bd_at (by omega)))))) rfl 9 (by decide) wmX4_setBase_setBase_1 (fun _ h9 => h9) rfl dX4_setBase_35 ?_
  refine lv_if_ne (tgt := 45) hx hb dX4_setBase_38 (by decide) (fun c_38 => ?_) (fun c_38 => ?_)
  · refine lv_iconst (v := 0) hx hb dX4_setBase_45 (by decide) ?_
    exact x_zret hx hb hr hlocks hK hw (Nat.le_of_ble_eq_true rfl) (Nat.le_of_ble_eq_true rfl) dX4_setBase_46 (by rfl) (by simp only [exBase, xo, n_2, n_7, n_11]) (show (0 : Int32) = (if ((skB so rs tx ty (skBase bs (iN i) (iN j) h)).2.2.2.2 0).2.2.2.2.2.2.2.2.2 = 0 then 1 else 0) by exact (if_neg c_38).symm) rfl
  · refine lv_iconst (v := 1) hx hb dX4_setBase_41 (by decide) ?_
    refine lv_goto (tgt := 46) hx hb dX4_setBase_42 (by decide) ?_
    exact x_zret hx hb hr hlocks hK hw (Nat.le_of_ble_eq_true rfl) (Nat.le_of_ble_eq_true rfl) dX4_setBase_46 (by rfl) (by simp only [exBase, xo, n_2, n_7, n_11]) (show (1 : Int32) = (if ((skB so rs tx ty (skBase bs (iN i) (iN j) h)).2.2.2.2 0).2.2.2.2.2.2.2.2.2 = 0 then 1 else 0) by exact (if_pos c_38).symm) rfl

theorem wiX4_pocket_pocket_X2 : ∀ w ∈ wsX20, w ∈ wsX4_pocket := by decide +kernel
theorem wiX4_pocket_pocket_X4 : ∀ w ∈ wsX40, w ∈ wsX4_pocket := by decide +kernel
theorem wmX4_pocket_pocket_0 : Cond.fieldLink RX4 29 "PartSketch" "body" "LPartSketch$Body;" ∈ wsX4_pocket := by decide +kernel
theorem wmX4_pocket_pocket_1 : Cond.fieldLink RX4 135 "PartSketch$Body" "hasBase" "Z" ∈ wsX4_pocket := by decide +kernel
theorem wmX4_pocket_pocket_2 : Cond.fieldLink RX4 140 "PartSketch$Body" "pockets" "I" ∈ wsX4_pocket := by decide +kernel
theorem wmX4_pocket_pocket_3 : Cond.classLink RX4 41 "java/lang/IllegalStateException" ∈ wsX4_pocket := by decide +kernel
theorem wmX4_pocket_pocket_4 : Cond.initialized "java/lang/IllegalStateException" ∈ wsX4_pocket := by decide +kernel
theorem wxX4_pocket_pocket_S : ∀ w ∈ (vx_atS RX4 45 "java/lang/IllegalStateException" ["java/lang/RuntimeException", "java/lang/Exception"]).filter goodWord, w ∈ wsX4_pocket := by
  intro w h
  simp only [wsX4_pocket, List.mem_cons, List.mem_append, h, or_true, true_or]
set_option maxHeartbeats 4000000 in
set_option maxRecDepth 100000 in
/-- pocket -/
theorem c_pocket (l : Launch) (G : gT) (hst : l.stackTraces = false) (X : Nat → Nat) (r : aRw) (rs : tRw) (so : tOb) (x : aAx) (tx : tAx) (y : aAx) (ty : tAx) (b : aBd) (bs : tBd) (o : Nat) (i : Int32) (j : Int32) (d : Int32) (t : Int32) (hok : skOk so rs) (hb8 : bs.2.1 ≤ 8) (hbk : bdOk bs.2.2.2.2) (sz : Nat) : XI l yX4_pocket wsX4_pocket ({ frames := 7, cells := 5, slots := 30, locals := 111 }) G X [.ref o, .int i, .int j, .int d, .int t] (wRw G r rs ++ (wOb G (o, x.1, y.1, r.1, b.1) so ++ (wAx G x tx ++ (wAx G y ty ++ (wBd G b bs))))) (wRw G r rs ++ (wOb G (o, x.1, y.1, r.1, b.1) so ++ (wAx G x tx ++ (wAx G y ty ++ (wBd G b (skPock bs (iN i) (iN j) d t)))))) sz (exPock so.1 bs.2.1 bs.1 i j d t) (nI bs.2.1) 5 30 := by
  have hok0 := hok
  obtain ⟨hnp, hct, hon⟩ := hok
  refine x_of (Qc := fun A9 => (va_Qi (fun (r9 : Int32) (_ : Unit) => (exPock so.1 bs.2.1 bs.1 i j d t) = none ∧ r9 = (nI bs.2.1)) (fun _ t9 => wPost G A9 (wRw G r rs ++ (wOb G (o, x.1, y.1, r.1, b.1) so ++ (wAx G x tx ++ (wAx G y ty ++ (wBd G b (skPock bs (iN i) (iN j) d t)))))) t9) A9)) (XC := fun A9 => (xC G A9 (wRw G r rs ++ (wOb G (o, x.1, y.1, r.1, b.1) so ++ (wAx G x tx ++ (wAx G y ty ++ (wBd G b bs))))) (exPock so.1 bs.2.1 bs.1 i j d t))) (cc := cX4_pocket) (maxL := 5) (ret := (some .int)) (by decide) rfl (Nat.le_of_ble_eq_true rfl) ?_
  intro p9 e9 s9 m9 A9 be9 mt9 c9 H locs ls hx hb hr hts hown hlocks hin hml htab hK hA hF hw hl
  have hl : lv_has ls 5 [(0, .ref o), (1, .int i), (2, .int j), (3, .int d), (4, .int t)] := hl
  refine lv_aload_n hx hb dX4_pocket_0 rfl (lv_at hl 0 rfl) ?_
  refine lv_iload_n hx hb dX4_pocket_1 rfl (lv_at hl 1 rfl) ?_
  have hwc : wW G A9 s9.heap ((wRw G r rs) ++ ((wOb G (o, x.1, y.1, r.1, b.1) so) ++ (wAx G x tx ++ (wAx G y ty ++ (wBd G b bs))))) H locs := hw
  refine x_callv (u := wRw G r rs) (w := wOb G (o, x.1, y.1, r.1, b.1) so) (v := wAx G x tx ++ (wAx G y ty ++ (wBd G b bs))) (vx_runV (As := [.int i]) (rest := []) ⟨hx, hb, hml, hown, hts⟩ (c_reqPoint l G hst X so o r x y b i H.size) (cwV 1 hts gX4_pocket_X4_requirePoint rfl rfl rfl (by decide +kernel) ⟨Nat.le_of_ble_eq_true rfl, Nat.le_of_ble_eq_true rfl⟩) (x_preV (ci := 4) (q0 := 11) hK hF hA hwc rfl rfl rfl) rfl rfl hl.1 rfl (lv_room (Nat.le_of_ble_eq_true rfl)) dX4_pocket_2 ⟨Nat.le_of_ble_eq_true rfl, Nat.le_of_ble_eq_true rfl⟩) hwc hA rfl rfl htab hlocks hK (fun E hE => by simp only [exPock, xo, hE]) rfl (Nat.le_of_ble_eq_true rfl) (Nat.le_of_ble_eq_true rfl) (fun n_2 H locs hw => ?_)
  have n_2 : exIn so.1 i = none := n_2
  have hw : wW G A9 s9.heap (wRw G r rs ++ (wOb G (o, x.1, y.1, r.1, b.1) so ++ (wAx G x tx ++ (wAx G y ty ++ (wBd G b bs))))) H locs := hw
  have hp_2 : iN i < so.1 := exIn_lt (by omega) n_2
  refine lv_aload_n hx hb dX4_pocket_5 rfl (lv_at hl 0 rfl) ?_
  refine lv_iload_n hx hb dX4_pocket_6 rfl (lv_at hl 2 rfl) ?_
  have hwc : wW G A9 s9.heap ((wRw G r rs) ++ ((wOb G (o, x.1, y.1, r.1, b.1) so) ++ (wAx G x tx ++ (wAx G y ty ++ (wBd G b bs))))) H locs := hw
  refine x_callv (u := wRw G r rs) (w := wOb G (o, x.1, y.1, r.1, b.1) so) (v := wAx G x tx ++ (wAx G y ty ++ (wBd G b bs))) (vx_runV (As := [.int j]) (rest := []) ⟨hx, hb, hml, hown, hts⟩ (c_reqPoint l G hst X so o r x y b j H.size) (cwV 1 hts gX4_pocket_X4_requirePoint rfl rfl rfl (by decide +kernel) ⟨Nat.le_of_ble_eq_true rfl, Nat.le_of_ble_eq_true rfl⟩) (x_preV (ci := 4) (q0 := 11) hK hF hA hwc rfl rfl rfl) rfl rfl hl.1 rfl (lv_room (Nat.le_of_ble_eq_true rfl)) dX4_pocket_7 ⟨Nat.le_of_ble_eq_true rfl, Nat.le_of_ble_eq_true rfl⟩) hwc hA rfl rfl htab hlocks hK (fun E hE => by simp only [exPock, xo, hE, n_2]) rfl (Nat.le_of_ble_eq_true rfl) (Nat.le_of_ble_eq_true rfl) (fun n_7 H locs hw => ?_)
  have n_7 : exIn so.1 j = none := n_7
  have hw : wW G A9 s9.heap (wRw G r rs ++ (wOb G (o, x.1, y.1, r.1, b.1) so ++ (wAx G x tx ++ (wAx G y ty ++ (wBd G b bs))))) H locs := hw
  have hp_7 : iN j < so.1 := exIn_lt (by omega) n_7
  refine lv_iload hx hb dX4_pocket_10 (lv_at hl 4 rfl) ?_
  refine lv_iconst (v := (-1)) hx hb dX4_pocket_12 (by decide) ?_
  refine lv_icmp_eq (tgt := 22) hx hb dX4_pocket_13 (by decide) (fun c_13 => ?_) (fun c_13 => ?_)
  · refine lv_iload_n hx hb dX4_pocket_22 rfl (lv_at hl 3 rfl) ?_
    have hwc : wW G A9 s9.heap (([] : va_W) ++ (([] : va_W) ++ (wRw G r rs ++ (wOb G (o, x.1, y.1, r.1, b.1) so ++ (wAx G x tx ++ (wAx G y ty ++ (wBd G b bs))))))) H locs := hw
    refine x_callv (u := ([] : va_W)) (w := ([] : va_W)) (v := wRw G r rs ++ (wOb G (o, x.1, y.1, r.1, b.1) so ++ (wAx G x tx ++ (wAx G y ty ++ (wBd G b bs))))) (vx_runS (As := [.int d]) (rest := []) ⟨hx, hb, hml, hown, hts⟩ (c_reqDepth l G hst X d H.size) (va_cwS 1 hts gX4_pocket_X4_requireDepth rfl rfl rfl (by decide +kernel) ⟨Nat.le_of_ble_eq_true rfl, Nat.le_of_ble_eq_true rfl⟩) (x_preS hK hF hA hwc) rfl rfl hl.1 rfl (lv_room (Nat.le_of_ble_eq_true rfl)) dX4_pocket_23 ⟨Nat.le_of_ble_eq_true rfl, Nat.le_of_ble_eq_true rfl⟩) hwc hA rfl rfl htab hlocks hK (fun E hE => by simp only [exPock, xo, hE, n_2, n_7, if_pos c_13]) rfl (Nat.le_of_ble_eq_true rfl) (Nat.le_of_ble_eq_true rfl) (fun n_23 H locs hw => ?_)
    have n_23 : exDepth d = none := n_23
    have hw : wW G A9 s9.heap (wRw G r rs ++ (wOb G (o, x.1, y.1, r.1, b.1) so ++ (wAx G x tx ++ (wAx G y ty ++ (wBd G b bs))))) H locs := hw
    refine lv_aload_n hx hb dX4_pocket_26 rfl (lv_at hl 0 rfl) ?_
    refine r_get (ci := 4) (v := .ref b.1) (C := RX4) (T := TX4) (N := 6) hx hb hts wiX4_pocket_pocket_X4 hown hK hw 11 rfl rfl 3 (by decide) wmX4_pocket_pocket_0 (fun _ h9 => h9) rfl dX4_pocket_27 ?_
    refine r_get (ci := 2) (v := .int bs.1) (C := RX2) (T := TX2) (N := 5) hx hb hts wiX4_pocket_pocket_X2 hown hK hw 20 rfl rfl 0 (by decide) wmX4_pocket_pocket_1 (fun _ h9 => h9) rfl dX4_pocket_30 ?_
    refine lv_if_ne (tgt := 46) hx hb dX4_pocket_33 (by decide) (fun c_33 => ?_) (fun c_33 => ?_)
    · refine lv_aload_n hx hb dX4_pocket_46 rfl (lv_at hl 0 rfl) ?_
      refine r_get (ci := 4) (v := .ref b.1) (C := RX4) (T := TX4) (N := 6) hx hb hts wiX4_pocket_pocket_X4 hown hK hw 11 rfl rfl 3 (by decide) wmX4_pocket_pocket_0 (fun _ h9 => h9) rfl dX4_pocket_47 ?_
      refine r_get (ci := 2) (v := .int (nI bs.2.1)) (C := RX2) (T := TX2) (N := 5) hx hb hts wiX4_pocket_pocket_X2 hown hK hw 20 rfl rfl 1 (by decide) wmX4_pocket_pocket_2 (fun _ h9 => h9) rfl dX4_pocket_50 ?_
      refine lv_bipush (v := 8) hx hb dX4_pocket_53 (by decide) ?_
      refine lv_icmp_lt (tgt := 68) hx hb dX4_pocket_55 (by decide) (fun c_55 => ?_) (fun c_55 => ?_)
      · have h8 : bs.2.1 < 8 := x_lt (b := 8) (by omega) (by decide) c_55
        have ht9 : iN (1 + t) < 9 := by rw [c_13]; decide
        refine lv_aload_n hx hb dX4_pocket_68 rfl (lv_at hl 0 rfl) ?_
        refine r_get (ci := 4) (v := .ref b.1) (C := RX4) (T := TX4) (N := 6) hx hb hts wiX4_pocket_pocket_X4 hown hK hw 11 rfl rfl 3 (by decide) wmX4_pocket_pocket_0 (fun _ h9 => h9) rfl dX4_pocket_69 ?_
        refine lv_iload_n hx hb dX4_pocket_72 rfl (lv_at hl 1 rfl) ?_
        refine r_top (y := nI (iN i)) (nI_iN _) ?_
        refine lv_iload_n hx hb dX4_pocket_73 rfl (lv_at hl 2 rfl) ?_
        refine r_top (y := nI (iN j)) (nI_iN _) ?_
        refine lv_iload_n hx hb dX4_pocket_74 rfl (lv_at hl 3 rfl) ?_
        refine lv_iload hx hb dX4_pocket_75 (lv_at hl 4 rfl) ?_
        have hwc : wW G A9 s9.heap ((wRw G r rs ++ (wOb G (o, x.1, y.1, r.1, b.1) so ++ (wAx G x tx ++ (wAx G y ty)))) ++ ((wBd G b bs) ++ ([] : va_W))) H locs := hw
        refine r_calli (res := (nI bs.2.1)) (u := wRw G r rs ++ (wOb G (o, x.1, y.1, r.1, b.1) so ++ (wAx G x tx ++ (wAx G y ty)))) (w := wBd G b bs) (v := ([] : va_W)) (va_runV (As := [.int (nI (iN i)), .int (nI (iN j)), .int d, .int t]) (rest := []) ⟨hx, hb, hml, hown, hts⟩ (c_addPocket l G b bs (iN i) (iN j) d t (iN (1 + t)) (by first | assumption | omega | decide) (nI_iN _) ht9 H.size) (cwV 4 hts gX4_pocket_X2_addPocket rfl rfl rfl (by decide +kernel) ⟨Nat.le_of_ble_eq_true rfl, Nat.le_of_ble_eq_true rfl⟩) (r_preV (ci := 2) (q0 := 20) hK hwc rfl rfl rfl) rfl rfl hl.1 rfl (lv_room (Nat.le_of_ble_eq_true rfl)) dX4_pocket_77 ⟨Nat.le_of_ble_eq_true rfl, Nat.le_of_ble_eq_true rfl⟩) hwc hA rfl rfl (fun H locs hw => ?_)
        have hw : wW G A9 s9.heap (wRw G r rs ++ (wOb G (o, x.1, y.1, r.1, b.1) so ++ (wAx G x tx ++ (wAx G y ty ++ (wBd G b (bs.1, bs.2.1 + 1, bs.2.2.1, bs.2.2.2.1, (updB bs.2.2.2.2 (1 + bs.2.1) ((iN i), (iN j), d, some (iN (1 + t)), (bs.2.2.2.2 (1 + bs.2.1)).2.2.2.2.1, (bs.2.2.2.2 (1 + bs.2.1)).2.2.2.2.2.1, (bs.2.2.2.2 (1 + bs.2.1)).2.2.2.2.2.2.1, (bs.2.2.2.2 (1 + bs.2.1)).2.2.2.2.2.2.2.1, (bs.2.2.2.2 (1 + bs.2.1)).2.2.2.2.2.2.2.2.1, (bs.2.2.2.2 (1 + bs.2.1)).2.2.2.2.2.2.2.2.2)))))))) H locs := hw
        exact x_iret hx hb hr hlocks hK hw (Nat.le_of_ble_eq_true rfl) (Nat.le_of_ble_eq_true rfl) dX4_pocket_80 (by simp only [exPock, xo, n_2, n_7, n_23, if_pos c_13, if_neg c_33, if_pos c_55]) (show (nI bs.2.1 : Int32) = nI bs.2.1 by rfl) rfl
      · exact x_throw (text := "there are 8 pockets") hx hb hst hown (by decide +kernel) (hts _ wmX4_pocket_pocket_3) (hts _ wmX4_pocket_pocket_4) (by decide +kernel) (fun w h => hts w (wxX4_pocket_pocket_S w h)) xbS xgS hF hK hw (hl.1.trans hml.symm) dX4_pocket_58 dX4_pocket_61 dX4_pocket_62 dX4_pocket_64 dX4_pocket_67 htab (Nat.le_of_ble_eq_true rfl) (Nat.le_of_ble_eq_true rfl) (Nat.le_of_ble_eq_true rfl) (Nat.le_of_ble_eq_true rfl) hlocks (by simp only [exPock, xo, n_2, n_7, n_23, if_pos c_13, if_neg c_33, if_neg c_55]) rfl (Nat.le_of_ble_eq_true rfl) (Nat.le_of_ble_eq_true rfl)
    · exact x_throw (text := "there is no base") hx hb hst hown (by decide +kernel) (hts _ wmX4_pocket_pocket_3) (hts _ wmX4_pocket_pocket_4) (by decide +kernel) (fun w h => hts w (wxX4_pocket_pocket_S w h)) xbS xgS hF hK hw (hl.1.trans hml.symm) dX4_pocket_36 dX4_pocket_39 dX4_pocket_40 dX4_pocket_42 dX4_pocket_45 htab (Nat.le_of_ble_eq_true rfl) (Nat.le_of_ble_eq_true rfl) (Nat.le_of_ble_eq_true rfl) (Nat.le_of_ble_eq_true rfl) hlocks (by simp only [exPock, xo, n_2, n_7, n_23, if_pos c_13, if_pos c_33]) rfl (Nat.le_of_ble_eq_true rfl) (Nat.le_of_ble_eq_true rfl)
  · refine lv_aload_n hx hb dX4_pocket_16 rfl (lv_at hl 0 rfl) ?_
    refine lv_iload hx hb dX4_pocket_17 (lv_at hl 4 rfl) ?_
    have hwc : wW G A9 s9.heap (([] : va_W) ++ ((wRw G r rs ++ (wOb G (o, x.1, y.1, r.1, b.1) so ++ (wAx G x tx ++ (wAx G y ty ++ (wBd G b bs))))) ++ ([] : va_W))) H locs := hw
    refine x_callv (u := ([] : va_W)) (w := wRw G r rs ++ (wOb G (o, x.1, y.1, r.1, b.1) so ++ (wAx G x tx ++ (wAx G y ty ++ (wBd G b bs))))) (v := ([] : va_W)) (vx_runV (As := [.int t]) (rest := []) ⟨hx, hb, hml, hown, hts⟩ (c_reqPocket l G hst X r rs so x tx y ty b bs o t H.size) (cwV 1 hts gX4_pocket_X4_requirePocket rfl rfl rfl (by decide +kernel) ⟨Nat.le_of_ble_eq_true rfl, Nat.le_of_ble_eq_true rfl⟩) (x_preV (ci := 4) (q0 := 11) hK hF hA hwc rfl rfl rfl) rfl rfl hl.1 rfl (lv_room (Nat.le_of_ble_eq_true rfl)) dX4_pocket_19 ⟨Nat.le_of_ble_eq_true rfl, Nat.le_of_ble_eq_true rfl⟩) hwc hA rfl rfl htab hlocks hK (fun E hE => by simp only [exPock, xo, hE, n_2, n_7, if_neg c_13]) rfl (Nat.le_of_ble_eq_true rfl) (Nat.le_of_ble_eq_true rfl) (fun n_19 H locs hw => ?_)
    have n_19 : exIn bs.2.1 t = none := n_19
    have hw : wW G A9 s9.heap (wRw G r rs ++ (wOb G (o, x.1, y.1, r.1, b.1) so ++ (wAx G x tx ++ (wAx G y ty ++ (wBd G b bs))))) H locs := hw
    refine lv_iload_n hx hb dX4_pocket_22 rfl (lv_at hl 3 rfl) ?_
    have hwc : wW G A9 s9.heap (([] : va_W) ++ (([] : va_W) ++ (wRw G r rs ++ (wOb G (o, x.1, y.1, r.1, b.1) so ++ (wAx G x tx ++ (wAx G y ty ++ (wBd G b bs))))))) H locs := hw
    refine x_callv (u := ([] : va_W)) (w := ([] : va_W)) (v := wRw G r rs ++ (wOb G (o, x.1, y.1, r.1, b.1) so ++ (wAx G x tx ++ (wAx G y ty ++ (wBd G b bs))))) (vx_runS (As := [.int d]) (rest := []) ⟨hx, hb, hml, hown, hts⟩ (c_reqDepth l G hst X d H.size) (va_cwS 1 hts gX4_pocket_X4_requireDepth rfl rfl rfl (by decide +kernel) ⟨Nat.le_of_ble_eq_true rfl, Nat.le_of_ble_eq_true rfl⟩) (x_preS hK hF hA hwc) rfl rfl hl.1 rfl (lv_room (Nat.le_of_ble_eq_true rfl)) dX4_pocket_23 ⟨Nat.le_of_ble_eq_true rfl, Nat.le_of_ble_eq_true rfl⟩) hwc hA rfl rfl htab hlocks hK (fun E hE => by simp only [exPock, xo, hE, n_2, n_7, n_19, if_neg c_13]) rfl (Nat.le_of_ble_eq_true rfl) (Nat.le_of_ble_eq_true rfl) (fun n_23 H locs hw => ?_)
    have n_23 : exDepth d = none := n_23
    have hw : wW G A9 s9.heap (wRw G r rs ++ (wOb G (o, x.1, y.1, r.1, b.1) so ++ (wAx G x tx ++ (wAx G y ty ++ (wBd G b bs))))) H locs := hw
    refine lv_aload_n hx hb dX4_pocket_26 rfl (lv_at hl 0 rfl) ?_
    refine r_get (ci := 4) (v := .ref b.1) (C := RX4) (T := TX4) (N := 6) hx hb hts wiX4_pocket_pocket_X4 hown hK hw 11 rfl rfl 3 (by decide) wmX4_pocket_pocket_0 (fun _ h9 => h9) rfl dX4_pocket_27 ?_
    refine r_get (ci := 2) (v := .int bs.1) (C := RX2) (T := TX2) (N := 5) hx hb hts wiX4_pocket_pocket_X2 hown hK hw 20 rfl rfl 0 (by decide) wmX4_pocket_pocket_1 (fun _ h9 => h9) rfl dX4_pocket_30 ?_
    refine lv_if_ne (tgt := 46) hx hb dX4_pocket_33 (by decide) (fun c_33 => ?_) (fun c_33 => ?_)
    · refine lv_aload_n hx hb dX4_pocket_46 rfl (lv_at hl 0 rfl) ?_
      refine r_get (ci := 4) (v := .ref b.1) (C := RX4) (T := TX4) (N := 6) hx hb hts wiX4_pocket_pocket_X4 hown hK hw 11 rfl rfl 3 (by decide) wmX4_pocket_pocket_0 (fun _ h9 => h9) rfl dX4_pocket_47 ?_
      refine r_get (ci := 2) (v := .int (nI bs.2.1)) (C := RX2) (T := TX2) (N := 5) hx hb hts wiX4_pocket_pocket_X2 hown hK hw 20 rfl rfl 1 (by decide) wmX4_pocket_pocket_2 (fun _ h9 => h9) rfl dX4_pocket_50 ?_
      refine lv_bipush (v := 8) hx hb dX4_pocket_53 (by decide) ?_
      refine lv_icmp_lt (tgt := 68) hx hb dX4_pocket_55 (by decide) (fun c_55 => ?_) (fun c_55 => ?_)
      · have h8 : bs.2.1 < 8 := x_lt (b := 8) (by omega) (by decide) c_55
        have ht9 : iN (1 + t) < 9 := x_in1 (by omega) n_19
        refine lv_aload_n hx hb dX4_pocket_68 rfl (lv_at hl 0 rfl) ?_
        refine r_get (ci := 4) (v := .ref b.1) (C := RX4) (T := TX4) (N := 6) hx hb hts wiX4_pocket_pocket_X4 hown hK hw 11 rfl rfl 3 (by decide) wmX4_pocket_pocket_0 (fun _ h9 => h9) rfl dX4_pocket_69 ?_
        refine lv_iload_n hx hb dX4_pocket_72 rfl (lv_at hl 1 rfl) ?_
        refine r_top (y := nI (iN i)) (nI_iN _) ?_
        refine lv_iload_n hx hb dX4_pocket_73 rfl (lv_at hl 2 rfl) ?_
        refine r_top (y := nI (iN j)) (nI_iN _) ?_
        refine lv_iload_n hx hb dX4_pocket_74 rfl (lv_at hl 3 rfl) ?_
        refine lv_iload hx hb dX4_pocket_75 (lv_at hl 4 rfl) ?_
        have hwc : wW G A9 s9.heap ((wRw G r rs ++ (wOb G (o, x.1, y.1, r.1, b.1) so ++ (wAx G x tx ++ (wAx G y ty)))) ++ ((wBd G b bs) ++ ([] : va_W))) H locs := hw
        refine r_calli (res := (nI bs.2.1)) (u := wRw G r rs ++ (wOb G (o, x.1, y.1, r.1, b.1) so ++ (wAx G x tx ++ (wAx G y ty)))) (w := wBd G b bs) (v := ([] : va_W)) (va_runV (As := [.int (nI (iN i)), .int (nI (iN j)), .int d, .int t]) (rest := []) ⟨hx, hb, hml, hown, hts⟩ (c_addPocket l G b bs (iN i) (iN j) d t (iN (1 + t)) (by first | assumption | omega | decide) (nI_iN _) ht9 H.size) (cwV 4 hts gX4_pocket_X2_addPocket rfl rfl rfl (by decide +kernel) ⟨Nat.le_of_ble_eq_true rfl, Nat.le_of_ble_eq_true rfl⟩) (r_preV (ci := 2) (q0 := 20) hK hwc rfl rfl rfl) rfl rfl hl.1 rfl (lv_room (Nat.le_of_ble_eq_true rfl)) dX4_pocket_77 ⟨Nat.le_of_ble_eq_true rfl, Nat.le_of_ble_eq_true rfl⟩) hwc hA rfl rfl (fun H locs hw => ?_)
        have hw : wW G A9 s9.heap (wRw G r rs ++ (wOb G (o, x.1, y.1, r.1, b.1) so ++ (wAx G x tx ++ (wAx G y ty ++ (wBd G b (bs.1, bs.2.1 + 1, bs.2.2.1, bs.2.2.2.1, (updB bs.2.2.2.2 (1 + bs.2.1) ((iN i), (iN j), d, some (iN (1 + t)), (bs.2.2.2.2 (1 + bs.2.1)).2.2.2.2.1, (bs.2.2.2.2 (1 + bs.2.1)).2.2.2.2.2.1, (bs.2.2.2.2 (1 + bs.2.1)).2.2.2.2.2.2.1, (bs.2.2.2.2 (1 + bs.2.1)).2.2.2.2.2.2.2.1, (bs.2.2.2.2 (1 + bs.2.1)).2.2.2.2.2.2.2.2.1, (bs.2.2.2.2 (1 + bs.2.1)).2.2.2.2.2.2.2.2.2)))))))) H locs := hw
        exact x_iret hx hb hr hlocks hK hw (Nat.le_of_ble_eq_true rfl) (Nat.le_of_ble_eq_true rfl) dX4_pocket_80 (by simp only [exPock, xo, n_2, n_7, n_19, n_23, if_neg c_13, if_neg c_33, if_pos c_55]) (show (nI bs.2.1 : Int32) = nI bs.2.1 by rfl) rfl
      · exact x_throw (text := "there are 8 pockets") hx hb hst hown (by decide +kernel) (hts _ wmX4_pocket_pocket_3) (hts _ wmX4_pocket_pocket_4) (by decide +kernel) (fun w h => hts w (wxX4_pocket_pocket_S w h)) xbS xgS hF hK hw (hl.1.trans hml.symm) dX4_pocket_58 dX4_pocket_61 dX4_pocket_62 dX4_pocket_64 dX4_pocket_67 htab (Nat.le_of_ble_eq_true rfl) (Nat.le_of_ble_eq_true rfl) (Nat.le_of_ble_eq_true rfl) (Nat.le_of_ble_eq_true rfl) hlocks (by simp only [exPock, xo, n_2, n_7, n_19, n_23, if_neg c_13, if_neg c_33, if_neg c_55]) rfl (Nat.le_of_ble_eq_true rfl) (Nat.le_of_ble_eq_true rfl)
    · exact x_throw (text := "there is no base") hx hb hst hown (by decide +kernel) (hts _ wmX4_pocket_pocket_3) (hts _ wmX4_pocket_pocket_4) (by decide +kernel) (fun w h => hts w (wxX4_pocket_pocket_S w h)) xbS xgS hF hK hw (hl.1.trans hml.symm) dX4_pocket_36 dX4_pocket_39 dX4_pocket_40 dX4_pocket_42 dX4_pocket_45 htab (Nat.le_of_ble_eq_true rfl) (Nat.le_of_ble_eq_true rfl) (Nat.le_of_ble_eq_true rfl) (Nat.le_of_ble_eq_true rfl) hlocks (by simp only [exPock, xo, n_2, n_7, n_19, n_23, if_neg c_13, if_pos c_33]) rfl (Nat.le_of_ble_eq_true rfl) (Nat.le_of_ble_eq_true rfl)

theorem wiX4_fails_fails_X1 : ∀ w ∈ wsX10, w ∈ wsX4_fails := by decide +kernel
theorem wiX4_fails_fails_X4 : ∀ w ∈ wsX40, w ∈ wsX4_fails := by decide +kernel
theorem wmX4_fails_fails_0 : Cond.fieldLink RX4 29 "PartSketch" "body" "LPartSketch$Body;" ∈ wsX4_fails := by decide +kernel
theorem wmX4_fails_fails_1 : Cond.fieldLink RX4 127 "PartSketch$Block" "failing" "Z" ∈ wsX4_fails := by decide +kernel
set_option maxHeartbeats 4000000 in
set_option maxRecDepth 100000 in
/-- fails -/
theorem c_fails (l : Launch) (G : gT) (hst : l.stackTraces = false) (X : Nat → Nat) (r : aRw) (rs : tRw) (so : tOb) (x : aAx) (tx : tAx) (y : aAx) (ty : tAx) (b : aBd) (bs : tBd) (o : Nat) (i : Int32) (hok : skOk so rs) (hb8 : bs.2.1 ≤ 8) (hbk : bdOk bs.2.2.2.2) (h01 : bd01 bs.2.2.2.2) (sz : Nat) : XI l yX4_fails wsX4_fails ({ frames := 7, cells := 1, slots := 6, locals := 116 }) G X [.ref o, .int i] (wRw G r rs ++ (wOb G (o, x.1, y.1, r.1, b.1) so ++ (wAx G x tx ++ (wAx G y ty ++ (wBd G b bs))))) (wRw G r (rs.1, rs.2.1, rs.2.2.1, rs.2.2.2.1, rs.2.2.2.2.1, (skS so rs tx ty), rs.2.2.2.2.2.2) ++ (wOb G (o, x.1, y.1, r.1, b.1) (so.1, skF so) ++ (wAx G x (skX so rs tx ty) ++ (wAx G y (skY so rs tx ty) ++ (wBd G b (skB so rs tx ty bs)))))) sz (exIn bs.2.1 i) (((skB so rs tx ty bs).2.2.2.2 (iN i + 1)).2.2.2.2.2.2.2.2.2) 1 6 := by
  have hok0 := hok
  obtain ⟨hnp, hct, hon⟩ := hok
  refine x_of (Qc := fun A9 => (va_Qi (fun (r9 : Int32) (_ : Unit) => (exIn bs.2.1 i) = none ∧ r9 = (((skB so rs tx ty bs).2.2.2.2 (iN i + 1)).2.2.2.2.2.2.2.2.2)) (fun _ t9 => wPost G A9 (wRw G r (rs.1, rs.2.1, rs.2.2.1, rs.2.2.2.1, rs.2.2.2.2.1, (skS so rs tx ty), rs.2.2.2.2.2.2) ++ (wOb G (o, x.1, y.1, r.1, b.1) (so.1, skF so) ++ (wAx G x (skX so rs tx ty) ++ (wAx G y (skY so rs tx ty) ++ (wBd G b (skB so rs tx ty bs)))))) t9) A9)) (XC := fun A9 => (xC G A9 (wRw G r rs ++ (wOb G (o, x.1, y.1, r.1, b.1) so ++ (wAx G x tx ++ (wAx G y ty ++ (wBd G b bs))))) (exIn bs.2.1 i))) (cc := cX4_fails) (maxL := 2) (ret := (some .boolean)) (by decide) rfl (Nat.le_of_ble_eq_true rfl) ?_
  intro p9 e9 s9 m9 A9 be9 mt9 c9 H locs ls hx hb hr hts hown hlocks hin hml htab hK hA hF hw hl
  have hl : lv_has ls 2 [(0, .ref o), (1, .int i)] := hl
  refine lv_aload_n hx hb dX4_fails_0 rfl (lv_at hl 0 rfl) ?_
  refine lv_iload_n hx hb dX4_fails_1 rfl (lv_at hl 1 rfl) ?_
  have hwc : wW G A9 s9.heap (([] : va_W) ++ ((wRw G r rs ++ (wOb G (o, x.1, y.1, r.1, b.1) so ++ (wAx G x tx ++ (wAx G y ty ++ (wBd G b bs))))) ++ ([] : va_W))) H locs := hw
  refine x_callv (u := ([] : va_W)) (w := wRw G r rs ++ (wOb G (o, x.1, y.1, r.1, b.1) so ++ (wAx G x tx ++ (wAx G y ty ++ (wBd G b bs))))) (v := ([] : va_W)) (vx_runV (As := [.int i]) (rest := []) ⟨hx, hb, hml, hown, hts⟩ (c_reqPocket l G hst X r rs so x tx y ty b bs o i H.size) (cwV 1 hts gX4_fails_X4_requirePocket rfl rfl rfl (by decide +kernel) ⟨Nat.le_of_ble_eq_true rfl, Nat.le_of_ble_eq_true rfl⟩) (x_preV (ci := 4) (q0 := 11) hK hF hA hwc rfl rfl rfl) rfl rfl hl.1 rfl (lv_room (Nat.le_of_ble_eq_true rfl)) dX4_fails_2 ⟨Nat.le_of_ble_eq_true rfl, Nat.le_of_ble_eq_true rfl⟩) hwc hA rfl rfl htab hlocks hK (fun E hE => by simp only [xo, hE]) rfl (Nat.le_of_ble_eq_true rfl) (Nat.le_of_ble_eq_true rfl) (fun n_2 H locs hw => ?_)
  have n_2 : exIn bs.2.1 i = none := n_2
  have hw : wW G A9 s9.heap (wRw G r rs ++ (wOb G (o, x.1, y.1, r.1, b.1) so ++ (wAx G x tx ++ (wAx G y ty ++ (wBd G b bs))))) H locs := hw
  have hp_2 : iN i < bs.2.1 := exIn_lt (by omega) n_2
  refine lv_aload_n hx hb dX4_fails_5 rfl (lv_at hl 0 rfl) ?_
  have hwc : wW G A9 s9.heap (([] : va_W) ++ ((wRw G r rs ++ (wOb G (o, x.1, y.1, r.1, b.1) so ++ (wAx G x tx ++ (wAx G y ty ++ (wBd G b bs))))) ++ ([] : va_W))) H locs := hw
  refine r_callv (u := ([] : va_W)) (w := wRw G r rs ++ (wOb G (o, x.1, y.1, r.1, b.1) so ++ (wAx G x tx ++ (wAx G y ty ++ (wBd G b bs))))) (v := ([] : va_W)) (va_runV (As := []) (rest := []) ⟨hx, hb, hml, hown, hts⟩ (c_skmeas l G r rs so x tx y ty b bs o (by first | assumption | omega | decide) (by first | assumption | omega | decide) (by first | assumption | omega | decide) H.size) (cwV 0 hts gX4_fails_X4_measure rfl rfl rfl (by decide +kernel) ⟨Nat.le_of_ble_eq_true rfl, Nat.le_of_ble_eq_true rfl⟩) (r_preV (ci := 4) (q0 := 11) hK hwc rfl rfl rfl) rfl rfl hl.1 rfl (lv_room (Nat.le_of_ble_eq_true rfl)) dX4_fails_6 ⟨Nat.le_of_ble_eq_true rfl, Nat.le_of_ble_eq_true rfl⟩) hwc hA rfl rfl (fun H locs hw => ?_)
  have hw : wW G A9 s9.heap (wRw G r (rs.1, rs.2.1, rs.2.2.1, rs.2.2.2.1, rs.2.2.2.2.1, (skS so rs tx ty), rs.2.2.2.2.2.2) ++ (wOb G (o, x.1, y.1, r.1, b.1) (so.1, skF so) ++ (wAx G x (skX so rs tx ty) ++ (wAx G y (skY so rs tx ty) ++ (wBd G b (skB so rs tx ty bs)))))) H locs := hw
  refine lv_aload_n hx hb dX4_fails_9 rfl (lv_at hl 0 rfl) ?_
  refine r_get (ci := 4) (v := .ref b.1) (C := RX4) (T := TX4) (N := 6) hx hb hts wiX4_fails_fails_X4 hown hK hw 11 rfl rfl 3 (by decide) wmX4_fails_fails_0 (fun _ h9 => h9) rfl dX4_fails_10 ?_
  refine lv_iload_n hx hb dX4_fails_13 rfl (lv_at hl 1 rfl) ?_
  refine r_top (y := nI (iN i)) (nI_iN _) ?_
  have hwc : wW G A9 s9.heap ((wRw G r (rs.1, rs.2.1, rs.2.2.1, rs.2.2.2.1, rs.2.2.2.2.1, (skS so rs tx ty), rs.2.2.2.2.2.2) ++ (wOb G (o, x.1, y.1, r.1, b.1) (so.1, skF so) ++ (wAx G x (skX so rs tx ty) ++ (wAx G y (skY so rs tx ty))))) ++ ((wBd G b (skB so rs tx ty bs)) ++ ([] : va_W))) H locs := hw
  refine r_callr (res := (b.2.2.2.2 (iN i + 1))) (u := wRw G r (rs.1, rs.2.1, rs.2.2.1, rs.2.2.2.1, rs.2.2.2.2.1, (skS so rs tx ty), rs.2.2.2.2.2.2) ++ (wOb G (o, x.1, y.1, r.1, b.1) (so.1, skF so) ++ (wAx G x (skX so rs tx ty) ++ (wAx G y (skY so rs tx ty))))) (w := wBd G b (skB so rs tx ty bs)) (v := ([] : va_W)) (va_runV (As := [.int (nI (iN i))]) (rest := []) ⟨hx, hb, hml, hown, hts⟩ (c_pocketAt l G b (skB so rs tx ty bs) (nI (iN i)) (iN i + 1) (by rw [show (1 : Int32) = nI 1 from rfl, nI_add, Nat.add_comm]) (by first | assumption | omega | decide) H.size) (cwV 1 hts gX4_fails_X2_pocketAt rfl rfl rfl (by decide +kernel) ⟨Nat.le_of_ble_eq_true rfl, Nat.le_of_ble_eq_true rfl⟩) (r_preV (ci := 2) (q0 := 20) hK hwc rfl rfl rfl) rfl rfl hl.1 rfl (lv_room (Nat.le_of_ble_eq_true rfl)) dX4_fails_14 ⟨Nat.le_of_ble_eq_true rfl, Nat.le_of_ble_eq_true rfl⟩) hwc hA rfl rfl (fun H locs hw => ?_)
  have hw : wW G A9 s9.heap (wRw G r (rs.1, rs.2.1, rs.2.2.1, rs.2.2.2.1, rs.2.2.2.2.1, (skS so rs tx ty), rs.2.2.2.2.2.2) ++ (wOb G (o, x.1, y.1, r.1, b.1) (so.1, skF so) ++ (wAx G x (skX so rs tx ty) ++ (wAx G y (skY so rs tx ty) ++ (wBd G b (skB so rs tx ty bs)))))) H locs := hw
  refine r_get (ci := 1) (v := .int ((((skB so rs tx ty bs).2.2.2.2) (iN i + 1)).2.2.2.2.2.2.2.2.2)) (C := RX1) (T := TX1) (N := 10) hx hb hts wiX4_fails_fails_X1 hown hK hw (24 + (iN i + 1)) ((at_skip (n := 11) (j := 13 + (iN i + 1)) rfl (by omega)).trans ((at_skip (n := 1) (j := 12 + (iN i + 1)) rfl (by omega)).trans ((at_skip (n := 4) (j := 8 + (iN i + 1)) rfl (by omega)).trans ((at_skip (n := 4) (j := 4 + (iN i + 1)) rfl (by omega)).trans (bd_at (by omega)))))) rfl 9 (by decide) wmX4_fails_fails_1 (fun _ h9 => h9) rfl dX4_fails_17 ?_
  exact x_zret hx hb hr hlocks hK hw (Nat.le_of_ble_eq_true rfl) (Nat.le_of_ble_eq_true rfl) dX4_fails_20 (zb_nar (bdMeas01 h01 _)) (n_2) (show ((((skB so rs tx ty bs).2.2.2.2) (iN i + 1)).2.2.2.2.2.2.2.2.2 : Int32) = ((skB so rs tx ty bs).2.2.2.2 (iN i + 1)).2.2.2.2.2.2.2.2.2 by rfl) rfl
