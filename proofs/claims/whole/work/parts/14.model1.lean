/-! the check: numbers, solving, places, written as its code does it -/
def mdIn (v lo hi : Int32) : Int32 := if v < lo then 0 else if hi < v then 0 else 1
theorem mdIn01 (v lo hi : Int32) : mdIn v lo hi = 0 ∨ mdIn v lo hi = 1 := by unfold mdIn; split; exact Or.inl rfl; split; exact Or.inl rfl; exact Or.inr rfl
def mdHolds (V : tMV) (r i k : Nat) (d : Int32) : Int32 := if V.2.1 (17 * r + i) = V.2.1 (17 * r + k) then (if V.2.2 (17 * r + k) - V.2.2 (17 * r + i) = d then 1 else 2) else 0
def mdTiesK (V : tMV) (r i j : Nat) (d : Int32) : Nat → tMV
  | 0 => V
  | k + 1 => if (mdTiesK V r i j d k).2.1 (17 * r + k) = V.2.1 (17 * r + j) then ((mdTiesK V r i j d k).1, upd (mdTiesK V r i j d k).2.1 (17 * r + k) ((mdTiesK V r i j d k).2.1 (17 * r + i)), upd (mdTiesK V r i j d k).2.2 (17 * r + k) ((mdTiesK V r i j d k).2.2 (17 * r + k) + (V.2.2 (17 * r + i) + d - V.2.2 (17 * r + j)))) else mdTiesK V r i j d k
def mdTies (V : tMV) (r i j : Nat) (d : Int32) : tMV := if V.2.1 (17 * r + j) = V.2.1 (17 * r + i) then V else mdTiesK V r i j d 17
theorem mdTiesK_i {V : tMV} {r i j : Nat} {d : Int32} (h : ¬ V.2.1 (17 * r + j) = V.2.1 (17 * r + i)) : ∀ k, (mdTiesK V r i j d k).2.1 (17 * r + i) = V.2.1 (17 * r + i)
  | 0 => rfl
  | k + 1 => by
    have q := mdTiesK_i (d := d) h k
    rw [mdTiesK]
    split
    · rename_i e
      show upd _ _ _ _ = _
      rw [upd]
      split
      · exact q
      · exact q
    · exact q
def mdLooseK (V : tMV) : Nat → tMV
  | 0 => V
  | k + 1 => ((mdLooseK V k).1, upd (mdLooseK V k).2.1 k (nI k), upd (mdLooseK V k).2.2 k 0)
def mdSt2 (x y : Int32) : Int32 := if x = 2 then 2 else if y = 2 then 2 else if x = 1 then (if y = 1 then 1 else 0) else 0
def mdSet (V : tMV) (w : Nat) (v : Int32) : tMV := (upd V.1 w v, V.2.1, V.2.2)
def mdV1 (s : tMS) (V : tMV) (w : Nat) : Int32 := mdHolds V (s.2.2.2.2.1 w) (s.2.2.2.2.2.1 w) (s.2.2.2.2.2.2.1 w) (s.2.2.2.2.2.2.2 w)
def mdV2 (s : tMS) (V : tMV) (w : Nat) : Int32 := mdSt2 (mdHolds V 0 16 (s.2.2.2.2.2.1 w) (s.2.1 (s.2.2.2.2.2.1 w))) (mdHolds V 1 16 (s.2.2.2.2.2.1 w) (s.2.2.1 (s.2.2.2.2.2.1 w)))
def mdStep (s : tMS) (V : tMV) (w : Nat) : tMV :=
  if 2 ≤ nI (s.2.2.2.2.1 w) then
    (if mdV2 s V w = 0 then mdTies (mdTies (mdSet V w (mdV2 s V w)) 0 16 (s.2.2.2.2.2.1 w) (s.2.1 (s.2.2.2.2.2.1 w))) 1 16 (s.2.2.2.2.2.1 w) (s.2.2.1 (s.2.2.2.2.2.1 w)) else mdSet V w (mdV2 s V w))
  else (if mdV1 s V w = 0 then mdTies (mdSet V w (mdV1 s V w)) (s.2.2.2.2.1 w) (s.2.2.2.2.2.1 w) (s.2.2.2.2.2.2.1 w) (s.2.2.2.2.2.2.2 w) else mdSet V w (mdV1 s V w))
def mdSolveK (s : tMS) (V : tMV) : Nat → tMV
  | 0 => mdLooseK V 34
  | k + 1 => mdStep s (mdSolveK s V k) k
def mdSolve (s : tMS) (V : tMV) : tMV := mdSolveK s V s.2.2.2.1
/-- the wishes' things are in their rows -/
def mdOk (s : tMS) : Prop := s.1 ≤ 16 ∧ s.2.2.2.1 ≤ 40 ∧ ∀ w, w < s.2.2.2.1 → s.2.2.2.2.1 w ≤ 2 ∧ s.2.2.2.2.2.1 w ≤ 15 ∧ (s.2.2.2.2.1 w < 2 → s.2.2.2.2.2.2.1 w ≤ 15)
/-- the first node from n on that hangs together with the node at -/
def mdFirst (g : Nat → Int32) (t : Nat) : Nat → Nat → Nat
  | 0, n => n
  | f + 1, n => if g n = g t then n else mdFirst g t f (n + 1)
theorem mdFirst_hit {g : Nat → Int32} {t n : Nat} (h : g n = g t) : ∀ f, mdFirst g t f n = n
  | 0 => rfl
  | f + 1 => if_pos h
theorem mdFirst_step {g : Nat → Int32} {t n : Nat} (h : ¬ g n = g t) (hn : n < t) : mdFirst g t (t - n) n = mdFirst g t (t - (n + 1)) (n + 1) := by
  rw [show t - n = (t - (n + 1)) + 1 by omega]
  exact if_neg h
def mdPl (s : tMS) (V : tMV) (r p : Nat) : Int32 := if V.2.1 (17 * r + p) = V.2.1 (17 * r + 16) then V.2.2 (17 * r + p) - V.2.2 (17 * r + 16) else (if r = 0 then s.2.1 (mdFirst V.2.1 (17 * r + p) p (17 * r)) else s.2.2.1 (mdFirst V.2.1 (17 * r + p) p (17 * r) - 17)) + V.2.2 (17 * r + p) - V.2.2 (mdFirst V.2.1 (17 * r + p) p (17 * r))

theorem wiX5_thrown_thrown_X5 : ∀ w ∈ wsX50, w ∈ wsX5_thrown := by decide +kernel
theorem wmX5_thrown_thrown_0 : Cond.fieldLink RX5 74 "PartSketchModel" "thrown" "I" ∈ wsX5_thrown := by decide +kernel
set_option maxHeartbeats 4000000 in
set_option maxRecDepth 100000 in
/-- thrown -/
theorem c_thrown (l : Launch) (G : gT) (a : aMd) (m : tMd) (sz : Nat) : MI l yX5_thrown wsX5_thrown ({ frames := 0, cells := 0, slots := 0, locals := 0 }) G [.ref (a 0)] (wMd G a m) (wMd G a m) sz m.1 0 0 := by
  refine m_of (Qc := fun A9 => (va_Qi (fun (r9 : Int32) (_ : Unit) => r9 = m.1) (fun _ t9 => wPost G A9 (wMd G a m) t9) A9)) (cc := cX5_thrown) (maxL := 1) (ret := (some .int)) (by decide) rfl (Nat.le_of_ble_eq_true rfl) ?_
  intro p9 e9 s9 m9 A9 be9 mt9 c9 H locs ls hx hb hr hts hown hlocks hin hml hK hA hw hl
  have hl : lv_has ls 1 [(0, .ref (a 0))] := hl
  refine lv_aload_n hx hb dX5_thrown_0 rfl (lv_at hl 0 rfl) ?_
  refine r_get (ci := 5) (v := .int m.1) (C := RX5) (T := TX5) (N := 29) hx hb hts wiX5_thrown_thrown_X5 hown hK hw 0 rfl rfl 0 (by decide) wmX5_thrown_thrown_0 (fun _ h9 => h9) rfl dX5_thrown_1 ?_
  exact m_iret hx hb hr hlocks hK hw (Nat.le_of_ble_eq_true rfl) (Nat.le_of_ble_eq_true rfl) dX5_thrown_4 (show (m.1 : Int32) = m.1 by first | rfl | (simp only []; first | done | rfl)) rfl

theorem wiX5_refuses_refuses_X5 : ∀ w ∈ wsX50, w ∈ wsX5_refuses := by decide +kernel
theorem wmX5_refuses_refuses_0 : Cond.fieldLink RX5 74 "PartSketchModel" "thrown" "I" ∈ wsX5_refuses := by decide +kernel
set_option maxHeartbeats 4000000 in
set_option maxRecDepth 100000 in
/-- refuses -/
theorem c_refuses (l : Launch) (G : gT) (a : aMd) (m : tMd) (c0 : Int32) (sz : Nat) : MI l yX5_refuses wsX5_refuses ({ frames := 0, cells := 0, slots := 0, locals := 0 }) G [.ref (a 0), .int c0] (wMd G a m) (wMd G a (c0, m.2.1, m.2.2.1, m.2.2.2.1, m.2.2.2.2.1, m.2.2.2.2.2.1, m.2.2.2.2.2.2)) sz 0 0 0 := by
  refine m_of (Qc := fun A9 => (va_Qi (fun (r9 : Int32) (_ : Unit) => r9 = 0) (fun _ t9 => wPost G A9 (wMd G a (c0, m.2.1, m.2.2.1, m.2.2.2.1, m.2.2.2.2.1, m.2.2.2.2.2.1, m.2.2.2.2.2.2)) t9) A9)) (cc := cX5_refuses) (maxL := 2) (ret := (some .int)) (by decide) rfl (Nat.le_of_ble_eq_true rfl) ?_
  intro p9 e9 s9 m9 A9 be9 mt9 c9 H locs ls hx hb hr hts hown hlocks hin hml hK hA hw hl
  have hl : lv_has ls 2 [(0, .ref (a 0)), (1, .int c0)] := hl
  refine lv_aload_n hx hb dX5_refuses_0 rfl (lv_at hl 0 rfl) ?_
  refine lv_iload_n hx hb dX5_refuses_1 rfl (lv_at hl 1 rfl) ?_
  refine r_put (ci := 5) (v := .int c0) (ty := .int) (C := RX5) (T := TX5) (N := 29) hx hb hts wiX5_refuses_refuses_X5 tyX5 tyX5_ok nmX5 hown hK hw 0 rfl rfl 0 (by decide) wmX5_refuses_refuses_0 (fun _ h9 => h9) rfl (by decide +kernel) rfl rfl (Nat.le_of_ble_eq_true rfl) dX5_refuses_2 (ws' := wMd G a (c0, m.2.1, m.2.2.1, m.2.2.2.1, m.2.2.2.2.1, m.2.2.2.2.2.1, m.2.2.2.2.2.2)) rfl (fun H locs hw => ?_)
  refine lv_iconst (v := 0) hx hb dX5_refuses_5 (by decide) ?_
  exact m_iret hx hb hr hlocks hK hw (Nat.le_of_ble_eq_true rfl) (Nat.le_of_ble_eq_true rfl) dX5_refuses_6 (show (0 : Int32) = 0 by first | rfl | (simp only []; first | done | rfl)) rfl

set_option maxHeartbeats 4000000 in
set_option maxRecDepth 100000 in
/-- in -/
theorem c_mdin (l : Launch) (G : gT) (v : Int32) (lo : Int32) (hi : Int32) (sz : Nat) : MI l yX5_in wsX5_in ({ frames := 0, cells := 0, slots := 0, locals := 0 }) G [.int v, .int lo, .int hi] ([] : va_W) ([] : va_W) sz (mdIn v lo hi) 0 0 := by
  refine m_of (Qc := fun A9 => (va_Qi (fun (r9 : Int32) (_ : Unit) => r9 = (mdIn v lo hi)) (fun _ t9 => wPost G A9 ([] : va_W) t9) A9)) (cc := cX5_in) (maxL := 3) (ret := (some .boolean)) (by decide) rfl (Nat.le_of_ble_eq_true rfl) ?_
  intro p9 e9 s9 m9 A9 be9 mt9 c9 H locs ls hx hb hr hts hown hlocks hin hml hK hA hw hl
  have hl : lv_has ls 3 [(0, .int v), (1, .int lo), (2, .int hi)] := hl
  refine lv_iload_n hx hb dX5_in_0 rfl (lv_at hl 0 rfl) ?_
  refine lv_iload_n hx hb dX5_in_1 rfl (lv_at hl 1 rfl) ?_
  refine lv_icmp_lt (tgt := 14) hx hb dX5_in_2 (by decide) (fun c_2 => ?_) (fun c_2 => ?_)
  · refine lv_iconst (v := 0) hx hb dX5_in_14 (by decide) ?_
    exact m_zret hx hb hr hlocks hK hw (Nat.le_of_ble_eq_true rfl) (Nat.le_of_ble_eq_true rfl) dX5_in_15 (by rfl) (show (0 : Int32) = mdIn v lo hi by first | rfl | (simp only [mdIn, if_pos c_2]; first | done | rfl)) rfl
  · refine lv_iload_n hx hb dX5_in_5 rfl (lv_at hl 0 rfl) ?_
    refine lv_iload_n hx hb dX5_in_6 rfl (lv_at hl 2 rfl) ?_
    refine lv_icmp_gt (tgt := 14) hx hb dX5_in_7 (by decide) (fun c_7 => ?_) (fun c_7 => ?_)
    · refine lv_iconst (v := 0) hx hb dX5_in_14 (by decide) ?_
      exact m_zret hx hb hr hlocks hK hw (Nat.le_of_ble_eq_true rfl) (Nat.le_of_ble_eq_true rfl) dX5_in_15 (by rfl) (show (0 : Int32) = mdIn v lo hi by first | rfl | (simp only [mdIn, if_neg c_2, if_pos c_7]; first | done | rfl)) rfl
    · refine lv_iconst (v := 1) hx hb dX5_in_10 (by decide) ?_
      refine lv_goto (tgt := 15) hx hb dX5_in_11 (by decide) ?_
      exact m_zret hx hb hr hlocks hK hw (Nat.le_of_ble_eq_true rfl) (Nat.le_of_ble_eq_true rfl) dX5_in_15 (by rfl) (show (1 : Int32) = mdIn v lo hi by first | rfl | (simp only [mdIn, if_neg c_2, if_neg c_7]; first | done | rfl)) rfl

set_option maxHeartbeats 4000000 in
set_option maxRecDepth 100000 in
/-- isNear -/
theorem c_near (l : Launch) (G : gT) (v : Int32) (sz : Nat) : MI l yX5_isNear wsX5_isNear ({ frames := 1, cells := 0, slots := 0, locals := 22 }) G [.int v] ([] : va_W) ([] : va_W) sz (mdIn v (-100) 100) 0 0 := by
  refine m_of (Qc := fun A9 => (va_Qi (fun (r9 : Int32) (_ : Unit) => r9 = (mdIn v (-100) 100)) (fun _ t9 => wPost G A9 ([] : va_W) t9) A9)) (cc := cX5_isNear) (maxL := 1) (ret := (some .boolean)) (by decide) rfl (Nat.le_of_ble_eq_true rfl) ?_
  intro p9 e9 s9 m9 A9 be9 mt9 c9 H locs ls hx hb hr hts hown hlocks hin hml hK hA hw hl
  have hl : lv_has ls 1 [(0, .int v)] := hl
  refine lv_iload_n hx hb dX5_isNear_0 rfl (lv_at hl 0 rfl) ?_
  refine lv_bipush (v := (-100)) hx hb dX5_isNear_1 (by decide) ?_
  refine lv_bipush (v := 100) hx hb dX5_isNear_3 (by decide) ?_
  have hwc : wW G A9 s9.heap (([] : va_W) ++ (([] : va_W) ++ ([] : va_W))) H locs := hw
  refine r_calli (res := (mdIn v (-100) 100)) (u := ([] : va_W)) (w := ([] : va_W)) (v := ([] : va_W)) (va_runS (As := [.int v, .int (-100), .int 100]) (rest := []) ⟨hx, hb, hml, hown, hts⟩ (c_mdin l G v (-100) 100 H.size) (va_cwS 3 hts gX5_isNear_X5_in rfl rfl rfl (by decide +kernel) ⟨Nat.le_of_ble_eq_true rfl, Nat.le_of_ble_eq_true rfl⟩) (r_preS hK hwc) rfl rfl hl.1 rfl (lv_room (Nat.le_of_ble_eq_true rfl)) dX5_isNear_5 ⟨Nat.le_of_ble_eq_true rfl, Nat.le_of_ble_eq_true rfl⟩) hwc hA rfl rfl (fun H locs hw => ?_)
  have hw : wW G A9 s9.heap ([] : va_W) H locs := hw
  exact m_zret hx hb hr hlocks hK hw (Nat.le_of_ble_eq_true rfl) (Nat.le_of_ble_eq_true rfl) dX5_isNear_8 (zb_nar (mdIn01 _ _ _)) (show (mdIn v (-100) 100 : Int32) = mdIn v (-100) 100 by rfl) rfl

theorem wiX5_isPoint_ispoint_X5 : ∀ w ∈ wsX50, w ∈ wsX5_isPoint := by decide +kernel
theorem wmX5_isPoint_ispoint_0 : Cond.fieldLink RX5 82 "PartSketchModel" "points" "I" ∈ wsX5_isPoint := by decide +kernel
set_option maxHeartbeats 4000000 in
set_option maxRecDepth 100000 in
/-- isPoint -/
theorem c_ispoint (l : Launch) (G : gT) (a : aMd) (m : tMd) (v : Int32) (sz : Nat) : MI l yX5_isPoint wsX5_isPoint ({ frames := 1, cells := 0, slots := 0, locals := 22 }) G [.ref (a 0), .int v] (wMd G a m) (wMd G a m) sz (mdIn v 0 (nI m.2.1.1 - 1)) 0 0 := by
  refine m_of (Qc := fun A9 => (va_Qi (fun (r9 : Int32) (_ : Unit) => r9 = (mdIn v 0 (nI m.2.1.1 - 1))) (fun _ t9 => wPost G A9 (wMd G a m) t9) A9)) (cc := cX5_isPoint) (maxL := 2) (ret := (some .boolean)) (by decide) rfl (Nat.le_of_ble_eq_true rfl) ?_
  intro p9 e9 s9 m9 A9 be9 mt9 c9 H locs ls hx hb hr hts hown hlocks hin hml hK hA hw hl
  have hl : lv_has ls 2 [(0, .ref (a 0)), (1, .int v)] := hl
  refine lv_iload_n hx hb dX5_isPoint_0 rfl (lv_at hl 1 rfl) ?_
  refine lv_iconst (v := 0) hx hb dX5_isPoint_1 (by decide) ?_
  refine lv_aload_n hx hb dX5_isPoint_2 rfl (lv_at hl 0 rfl) ?_
  refine r_get (ci := 5) (v := .int (nI m.2.1.1)) (C := RX5) (T := TX5) (N := 29) hx hb hts wiX5_isPoint_ispoint_X5 hown hK hw 0 rfl rfl 1 (by decide) wmX5_isPoint_ispoint_0 (fun _ h9 => h9) rfl dX5_isPoint_3 ?_
  refine lv_iconst (v := 1) hx hb dX5_isPoint_6 (by decide) ?_
  refine lv_isub hx hb dX5_isPoint_7 ?_
  have hwc : wW G A9 s9.heap (([] : va_W) ++ (([] : va_W) ++ (wMd G a m))) H locs := hw
  refine r_calli (res := (mdIn v 0 ((nI m.2.1.1) - 1))) (u := ([] : va_W)) (w := ([] : va_W)) (v := wMd G a m) (va_runS (As := [.int v, .int 0, .int ((nI m.2.1.1) - 1)]) (rest := []) ⟨hx, hb, hml, hown, hts⟩ (c_mdin l G v 0 ((nI m.2.1.1) - 1) H.size) (va_cwS 3 hts gX5_isPoint_X5_in rfl rfl rfl (by decide +kernel) ⟨Nat.le_of_ble_eq_true rfl, Nat.le_of_ble_eq_true rfl⟩) (r_preS hK hwc) rfl rfl hl.1 rfl (lv_room (Nat.le_of_ble_eq_true rfl)) dX5_isPoint_8 ⟨Nat.le_of_ble_eq_true rfl, Nat.le_of_ble_eq_true rfl⟩) hwc hA rfl rfl (fun H locs hw => ?_)
  have hw : wW G A9 s9.heap (wMd G a m) H locs := hw
  exact m_zret hx hb hr hlocks hK hw (Nat.le_of_ble_eq_true rfl) (Nat.le_of_ble_eq_true rfl) dX5_isPoint_11 (zb_nar (mdIn01 _ _ _)) (show (mdIn v 0 ((nI m.2.1.1) - 1) : Int32) = mdIn v 0 (nI m.2.1.1 - 1) by rfl) rfl

theorem wiX5_isWish_iswish_X5 : ∀ w ∈ wsX50, w ∈ wsX5_isWish := by decide +kernel
theorem wmX5_isWish_iswish_0 : Cond.fieldLink RX5 85 "PartSketchModel" "wishes" "I" ∈ wsX5_isWish := by decide +kernel
set_option maxHeartbeats 4000000 in
set_option maxRecDepth 100000 in
/-- isWish -/
theorem c_iswish (l : Launch) (G : gT) (a : aMd) (m : tMd) (v : Int32) (sz : Nat) : MI l yX5_isWish wsX5_isWish ({ frames := 1, cells := 0, slots := 0, locals := 22 }) G [.ref (a 0), .int v] (wMd G a m) (wMd G a m) sz (mdIn v 0 (nI m.2.1.2.2.2.1 - 1)) 0 0 := by
  refine m_of (Qc := fun A9 => (va_Qi (fun (r9 : Int32) (_ : Unit) => r9 = (mdIn v 0 (nI m.2.1.2.2.2.1 - 1))) (fun _ t9 => wPost G A9 (wMd G a m) t9) A9)) (cc := cX5_isWish) (maxL := 2) (ret := (some .boolean)) (by decide) rfl (Nat.le_of_ble_eq_true rfl) ?_
  intro p9 e9 s9 m9 A9 be9 mt9 c9 H locs ls hx hb hr hts hown hlocks hin hml hK hA hw hl
  have hl : lv_has ls 2 [(0, .ref (a 0)), (1, .int v)] := hl
  refine lv_iload_n hx hb dX5_isWish_0 rfl (lv_at hl 1 rfl) ?_
  refine lv_iconst (v := 0) hx hb dX5_isWish_1 (by decide) ?_
  refine lv_aload_n hx hb dX5_isWish_2 rfl (lv_at hl 0 rfl) ?_
  refine r_get (ci := 5) (v := .int (nI m.2.1.2.2.2.1)) (C := RX5) (T := TX5) (N := 29) hx hb hts wiX5_isWish_iswish_X5 hown hK hw 0 rfl rfl 4 (by decide) wmX5_isWish_iswish_0 (fun _ h9 => h9) rfl dX5_isWish_3 ?_
  refine lv_iconst (v := 1) hx hb dX5_isWish_6 (by decide) ?_
  refine lv_isub hx hb dX5_isWish_7 ?_
  have hwc : wW G A9 s9.heap (([] : va_W) ++ (([] : va_W) ++ (wMd G a m))) H locs := hw
  refine r_calli (res := (mdIn v 0 ((nI m.2.1.2.2.2.1) - 1))) (u := ([] : va_W)) (w := ([] : va_W)) (v := wMd G a m) (va_runS (As := [.int v, .int 0, .int ((nI m.2.1.2.2.2.1) - 1)]) (rest := []) ⟨hx, hb, hml, hown, hts⟩ (c_mdin l G v 0 ((nI m.2.1.2.2.2.1) - 1) H.size) (va_cwS 3 hts gX5_isWish_X5_in rfl rfl rfl (by decide +kernel) ⟨Nat.le_of_ble_eq_true rfl, Nat.le_of_ble_eq_true rfl⟩) (r_preS hK hwc) rfl rfl hl.1 rfl (lv_room (Nat.le_of_ble_eq_true rfl)) dX5_isWish_8 ⟨Nat.le_of_ble_eq_true rfl, Nat.le_of_ble_eq_true rfl⟩) hwc hA rfl rfl (fun H locs hw => ?_)
  have hw : wW G A9 s9.heap (wMd G a m) H locs := hw
  exact m_zret hx hb hr hlocks hK hw (Nat.le_of_ble_eq_true rfl) (Nat.le_of_ble_eq_true rfl) dX5_isWish_11 (zb_nar (mdIn01 _ _ _)) (show (mdIn v 0 ((nI m.2.1.2.2.2.1) - 1) : Int32) = mdIn v 0 (nI m.2.1.2.2.2.1 - 1) by rfl) rfl

theorem wiX5_holds_holds_X5 : ∀ w ∈ wsX50, w ∈ wsX5_holds := by decide +kernel
theorem wmX5_holds_holds_0 : Cond.fieldLink RX5 38 "PartSketchModel" "group" "[I" ∈ wsX5_holds := by decide +kernel
theorem wmX5_holds_holds_1 : Cond.fieldLink RX5 41 "PartSketchModel" "off" "[I" ∈ wsX5_holds := by decide +kernel
set_option maxHeartbeats 4000000 in
set_option maxRecDepth 100000 in
/-- holds -/
theorem c_holds (l : Launch) (G : gT) (a : aMd) (m : tMd) (r : Nat) (i : Nat) (j : Nat) (d : Int32) (hr2 : r < 2) (hi : i < 17) (hj : j < 17) (sz : Nat) : MI l yX5_holds wsX5_holds ({ frames := 0, cells := 0, slots := 0, locals := 0 }) G [.ref (a 0), .int (nI r), .int (nI i), .int (nI j), .int d] (wMd G a m) (wMd G a m) sz (mdHolds m.2.2.2.1 r i j d) 0 0 := by
  refine m_of (Qc := fun A9 => (va_Qi (fun (r9 : Int32) (_ : Unit) => r9 = (mdHolds m.2.2.2.1 r i j d)) (fun _ t9 => wPost G A9 (wMd G a m) t9) A9)) (cc := cX5_holds) (maxL := 7) (ret := (some .int)) (by decide) rfl (Nat.le_of_ble_eq_true rfl) ?_
  intro p9 e9 s9 m9 A9 be9 mt9 c9 H locs ls hx hb hr hts hown hlocks hin hml hK hA hw hl
  have hl : lv_has ls 7 [(0, .ref (a 0)), (1, .int (nI r)), (2, .int (nI i)), (3, .int (nI j)), (4, .int d)] := hl
  refine lv_bipush (v := 17) hx hb dX5_holds_0 (by decide) ?_
  refine lv_iload_n hx hb dX5_holds_2 rfl (lv_at hl 1 rfl) ?_
  refine lv_imul hx hb dX5_holds_3 ?_
  refine r_top (y := nI (17 * r)) (pk_mul 17 r) ?_
  refine lv_iload_n hx hb dX5_holds_4 rfl (lv_at hl 2 rfl) ?_
  refine lv_iadd hx hb dX5_holds_5 ?_
  refine r_top (y := nI ((17 * r) + i)) (nI_add (17 * r) i) ?_
  refine lv_istore (lv' := [(5, .int (nI ((17 * r) + i))), (0, .ref (a 0)), (1, .int (nI r)), (2, .int (nI i)), (3, .int (nI j)), (4, .int d)]) hx hb dX5_holds_6 hl (by decide) rfl (fun ls hl => ?_)
  refine lv_bipush (v := 17) hx hb dX5_holds_8 (by decide) ?_
  refine lv_iload_n hx hb dX5_holds_10 rfl (lv_at hl 2 rfl) ?_
  refine lv_imul hx hb dX5_holds_11 ?_
  refine r_top (y := nI (17 * r)) (pk_mul 17 r) ?_
  refine lv_iload_n hx hb dX5_holds_12 rfl (lv_at hl 4 rfl) ?_
  refine lv_iadd hx hb dX5_holds_13 ?_
  refine r_top (y := nI ((17 * r) + j)) (nI_add (17 * r) j) ?_
  refine lv_istore (lv' := [(6, .int (nI ((17 * r) + j))), (5, .int (nI ((17 * r) + i))), (0, .ref (a 0)), (1, .int (nI r)), (2, .int (nI i)), (3, .int (nI j)), (4, .int d)]) hx hb dX5_holds_14 hl (by decide) rfl (fun ls hl => ?_)
  refine lv_aload_n hx hb dX5_holds_16 rfl (lv_at hl 2 rfl) ?_
  refine r_get (ci := 5) (v := .ref (a 10)) (C := RX5) (T := TX5) (N := 29) hx hb hts wiX5_holds_holds_X5 hown hK hw 0 rfl rfl 12 (by decide) wmX5_holds_holds_0 (fun _ h9 => h9) rfl dX5_holds_17 ?_
  refine lv_iload hx hb dX5_holds_20 (lv_at hl 1 rfl) ?_
  refine r_iald (v := m.2.2.2.1.2.1 ((17 * r) + i)) hx hb hK hw 10 rfl ((17 * r) + i) rfl (by omega) (by decide) rfl dX5_holds_22 ?_
  refine lv_aload_n hx hb dX5_holds_23 rfl (lv_at hl 2 rfl) ?_
  refine r_get (ci := 5) (v := .ref (a 10)) (C := RX5) (T := TX5) (N := 29) hx hb hts wiX5_holds_holds_X5 hown hK hw 0 rfl rfl 12 (by decide) wmX5_holds_holds_0 (fun _ h9 => h9) rfl dX5_holds_24 ?_
  refine lv_iload hx hb dX5_holds_27 (lv_at hl 0 rfl) ?_
  refine r_iald (v := m.2.2.2.1.2.1 ((17 * r) + j)) hx hb hK hw 10 rfl ((17 * r) + j) rfl (by omega) (by decide) rfl dX5_holds_29 ?_
  refine lv_icmp_eq (tgt := 37) hx hb dX5_holds_30 (by decide) (fun c_30 => ?_) (fun c_30 => ?_)
  · refine lv_aload_n hx hb dX5_holds_37 rfl (lv_at hl 2 rfl) ?_
    refine r_get (ci := 5) (v := .ref (a 11)) (C := RX5) (T := TX5) (N := 29) hx hb hts wiX5_holds_holds_X5 hown hK hw 0 rfl rfl 13 (by decide) wmX5_holds_holds_1 (fun _ h9 => h9) rfl dX5_holds_38 ?_
    refine lv_iload hx hb dX5_holds_41 (lv_at hl 0 rfl) ?_
    refine r_iald (v := m.2.2.2.1.2.2 ((17 * r) + j)) hx hb hK hw 11 rfl ((17 * r) + j) rfl (by omega) (by decide) rfl dX5_holds_43 ?_
    refine lv_aload_n hx hb dX5_holds_44 rfl (lv_at hl 2 rfl) ?_
    refine r_get (ci := 5) (v := .ref (a 11)) (C := RX5) (T := TX5) (N := 29) hx hb hts wiX5_holds_holds_X5 hown hK hw 0 rfl rfl 13 (by decide) wmX5_holds_holds_1 (fun _ h9 => h9) rfl dX5_holds_45 ?_
    refine lv_iload hx hb dX5_holds_48 (lv_at hl 1 rfl) ?_
    refine r_iald (v := m.2.2.2.1.2.2 ((17 * r) + i)) hx hb hK hw 11 rfl ((17 * r) + i) rfl (by omega) (by decide) rfl dX5_holds_50 ?_
    refine lv_isub hx hb dX5_holds_51 ?_
    refine lv_iload hx hb dX5_holds_52 (lv_at hl 6 rfl) ?_
    refine lv_icmp_ne (tgt := 61) hx hb dX5_holds_54 (by decide) (fun c_54 => ?_) (fun c_54 => ?_)
    · refine lv_iconst (v := 2) hx hb dX5_holds_61 (by decide) ?_
      exact m_iret hx hb hr hlocks hK hw (Nat.le_of_ble_eq_true rfl) (Nat.le_of_ble_eq_true rfl) dX5_holds_62 (show (2 : Int32) = mdHolds m.2.2.2.1 r i j d by first | rfl | (simp only [mdHolds, if_pos c_30, if_neg c_54]; first | done | rfl)) rfl
    · refine lv_iconst (v := 1) hx hb dX5_holds_57 (by decide) ?_
      refine lv_goto (tgt := 62) hx hb dX5_holds_58 (by decide) ?_
      exact m_iret hx hb hr hlocks hK hw (Nat.le_of_ble_eq_true rfl) (Nat.le_of_ble_eq_true rfl) dX5_holds_62 (show (1 : Int32) = mdHolds m.2.2.2.1 r i j d by first | rfl | (simp only [mdHolds, if_pos c_30, if_pos c_54]; first | done | rfl)) rfl
  · refine lv_iconst (v := 0) hx hb dX5_holds_33 (by decide) ?_
    refine lv_goto (tgt := 62) hx hb dX5_holds_34 (by decide) ?_
    exact m_iret hx hb hr hlocks hK hw (Nat.le_of_ble_eq_true rfl) (Nat.le_of_ble_eq_true rfl) dX5_holds_62 (show (0 : Int32) = mdHolds m.2.2.2.1 r i j d by first | rfl | (simp only [mdHolds, if_neg c_30]; first | done | rfl)) rfl

theorem wiX5_ties_ties_X5 : ∀ w ∈ wsX50, w ∈ wsX5_ties := by decide +kernel
theorem wmX5_ties_ties_0 : Cond.fieldLink RX5 38 "PartSketchModel" "group" "[I" ∈ wsX5_ties := by decide +kernel
theorem wmX5_ties_ties_1 : Cond.fieldLink RX5 41 "PartSketchModel" "off" "[I" ∈ wsX5_ties := by decide +kernel
set_option maxHeartbeats 4000000 in
set_option maxRecDepth 100000 in
/-- ties -/
theorem c_ties (l : Launch) (G : gT) (a : aMd) (m : tMd) (r : Nat) (i : Nat) (j : Nat) (d : Int32) (hr2 : r < 2) (hi : i < 17) (hj : j < 17) (sz : Nat) : MV l yX5_ties wsX5_ties ({ frames := 0, cells := 0, slots := 0, locals := 0 }) G [.ref (a 0), .int (nI r), .int (nI i), .int (nI j), .int d] (wMd G a m) (wMd G a (m.1, m.2.1, m.2.2.1, (mdTies m.2.2.2.1 r i j d), m.2.2.2.2.1, m.2.2.2.2.2.1, m.2.2.2.2.2.2)) sz 0 0 := by
  refine m_of (Qc := fun A9 => (va_Qv (fun (_ : Unit) => True) (fun _ t9 => wPost G A9 (wMd G a (m.1, m.2.1, m.2.2.1, (mdTies m.2.2.2.1 r i j d), m.2.2.2.2.1, m.2.2.2.2.2.1, m.2.2.2.2.2.2)) t9) A9)) (cc := cX5_ties) (maxL := 10) (ret := none) (by decide) rfl (Nat.le_of_ble_eq_true rfl) ?_
  intro p9 e9 s9 m9 A9 be9 mt9 c9 H locs ls hx hb hr hts hown hlocks hin hml hK hA hw hl
  have hl : lv_has ls 10 [(0, .ref (a 0)), (1, .int (nI r)), (2, .int (nI i)), (3, .int (nI j)), (4, .int d)] := hl
  refine lv_bipush (v := 17) hx hb dX5_ties_0 (by decide) ?_
  refine lv_iload_n hx hb dX5_ties_2 rfl (lv_at hl 1 rfl) ?_
  refine lv_imul hx hb dX5_ties_3 ?_
  refine r_top (y := nI (17 * r)) (pk_mul 17 r) ?_
  refine lv_iload_n hx hb dX5_ties_4 rfl (lv_at hl 2 rfl) ?_
  refine lv_iadd hx hb dX5_ties_5 ?_
  refine r_top (y := nI ((17 * r) + i)) (nI_add (17 * r) i) ?_
  refine lv_istore (lv' := [(5, .int (nI ((17 * r) + i))), (0, .ref (a 0)), (1, .int (nI r)), (2, .int (nI i)), (3, .int (nI j)), (4, .int d)]) hx hb dX5_ties_6 hl (by decide) rfl (fun ls hl => ?_)
  refine lv_bipush (v := 17) hx hb dX5_ties_8 (by decide) ?_
  refine lv_iload_n hx hb dX5_ties_10 rfl (lv_at hl 2 rfl) ?_
  refine lv_imul hx hb dX5_ties_11 ?_
  refine r_top (y := nI (17 * r)) (pk_mul 17 r) ?_
  refine lv_iload_n hx hb dX5_ties_12 rfl (lv_at hl 4 rfl) ?_
  refine lv_iadd hx hb dX5_ties_13 ?_
  refine r_top (y := nI ((17 * r) + j)) (nI_add (17 * r) j) ?_
  refine lv_istore (lv' := [(6, .int (nI ((17 * r) + j))), (5, .int (nI ((17 * r) + i))), (0, .ref (a 0)), (1, .int (nI r)), (2, .int (nI i)), (3, .int (nI j)), (4, .int d)]) hx hb dX5_ties_14 hl (by decide) rfl (fun ls hl => ?_)
  refine lv_aload_n hx hb dX5_ties_16 rfl (lv_at hl 2 rfl) ?_
  refine r_get (ci := 5) (v := .ref (a 10)) (C := RX5) (T := TX5) (N := 29) hx hb hts wiX5_ties_ties_X5 hown hK hw 0 rfl rfl 12 (by decide) wmX5_ties_ties_0 (fun _ h9 => h9) rfl dX5_ties_17 ?_
  refine lv_iload hx hb dX5_ties_20 (lv_at hl 0 rfl) ?_
  refine r_iald (v := m.2.2.2.1.2.1 ((17 * r) + j)) hx hb hK hw 10 rfl ((17 * r) + j) rfl (by omega) (by decide) rfl dX5_ties_22 ?_
  refine lv_istore (lv' := [(7, .int (m.2.2.2.1.2.1 ((17 * r) + j))), (6, .int (nI ((17 * r) + j))), (5, .int (nI ((17 * r) + i))), (0, .ref (a 0)), (1, .int (nI r)), (2, .int (nI i)), (3, .int (nI j)), (4, .int d)]) hx hb dX5_ties_23 hl (by decide) rfl (fun ls hl => ?_)
  refine lv_aload_n hx hb dX5_ties_25 rfl (lv_at hl 3 rfl) ?_
  refine r_get (ci := 5) (v := .ref (a 11)) (C := RX5) (T := TX5) (N := 29) hx hb hts wiX5_ties_ties_X5 hown hK hw 0 rfl rfl 13 (by decide) wmX5_ties_ties_1 (fun _ h9 => h9) rfl dX5_ties_26 ?_
  refine lv_iload hx hb dX5_ties_29 (lv_at hl 2 rfl) ?_
  refine r_iald (v := m.2.2.2.1.2.2 ((17 * r) + i)) hx hb hK hw 11 rfl ((17 * r) + i) rfl (by omega) (by decide) rfl dX5_ties_31 ?_
  refine lv_iload hx hb dX5_ties_32 (lv_at hl 7 rfl) ?_
  refine lv_iadd hx hb dX5_ties_34 ?_
  refine lv_aload_n hx hb dX5_ties_35 rfl (lv_at hl 3 rfl) ?_
  refine r_get (ci := 5) (v := .ref (a 11)) (C := RX5) (T := TX5) (N := 29) hx hb hts wiX5_ties_ties_X5 hown hK hw 0 rfl rfl 13 (by decide) wmX5_ties_ties_1 (fun _ h9 => h9) rfl dX5_ties_36 ?_
  refine lv_iload hx hb dX5_ties_39 (lv_at hl 1 rfl) ?_
  refine r_iald (v := m.2.2.2.1.2.2 ((17 * r) + j)) hx hb hK hw 11 rfl ((17 * r) + j) rfl (by omega) (by decide) rfl dX5_ties_41 ?_
  refine lv_isub hx hb dX5_ties_42 ?_
  refine lv_istore (lv' := [(8, .int (((m.2.2.2.1.2.2 ((17 * r) + i)) + d) - (m.2.2.2.1.2.2 ((17 * r) + j)))), (7, .int (m.2.2.2.1.2.1 ((17 * r) + j))), (6, .int (nI ((17 * r) + j))), (5, .int (nI ((17 * r) + i))), (0, .ref (a 0)), (1, .int (nI r)), (2, .int (nI i)), (3, .int (nI j)), (4, .int d)]) hx hb dX5_ties_43 hl (by decide) rfl (fun ls hl => ?_)
  refine lv_bipush (v := 17) hx hb dX5_ties_45 (by decide) ?_
  refine lv_iload_n hx hb dX5_ties_47 rfl (lv_at hl 5 rfl) ?_
  refine lv_imul hx hb dX5_ties_48 ?_
  refine r_top (y := nI (17 * r)) (pk_mul 17 r) ?_
  refine lv_istore (lv' := [(9, .int (nI (17 * r))), (8, .int (((m.2.2.2.1.2.2 ((17 * r) + i)) + d) - (m.2.2.2.1.2.2 ((17 * r) + j)))), (7, .int (m.2.2.2.1.2.1 ((17 * r) + j))), (6, .int (nI ((17 * r) + j))), (5, .int (nI ((17 * r) + i))), (0, .ref (a 0)), (1, .int (nI r)), (2, .int (nI i)), (3, .int (nI j)), (4, .int d)]) hx hb dX5_ties_49 hl (by decide) rfl (fun ls hl => ?_)
  have loop_51 : ∀ (nf : Nat) (k : Nat) (hnf : (17 - k) < nf) (hk : k ≤ 17) (hz : k = 0 ∨ ¬ m.2.2.2.1.2.1 (17 * r + j) = m.2.2.2.1.2.1 (17 * r + i)), ∀ (H : Heap) (locs : List Loc) (ls : Array Slot), wW G A9 s9.heap (wMd G a (m.1, m.2.1, m.2.2.1, (mdTiesK m.2.2.2.1 r i j d k), m.2.2.2.2.1, m.2.2.2.2.2.1, m.2.2.2.2.2.2)) H locs → lv_has ls 10 [(0, .ref (a 0)), (1, .int (nI r)), (2, .int (nI i)), (3, .int (nI j)), (4, .int d), (5, .int (nI ((17 * r) + i))), (6, .int (nI ((17 * r) + j))), (7, .int (m.2.2.2.1.2.1 ((17 * r) + j))), (8, .int (((m.2.2.2.1.2.2 ((17 * r) + i)) + d) - (m.2.2.2.1.2.2 ((17 * r) + j)))), (9, .int (nI (17 * r + k)))] → W p9 l e9 ({ frames := 0, cells := 0, slots := 0, locals := 0 }) s9 m9 [.ref (a 0), .int (nI r), .int (nI i), .int (nI j), .int d].toArray be9 mt9 c9 H locs 0 0 (MQ be9 (va_Qv (fun (_ : Unit) => True) (fun _ t9 => wPost G A9 (wMd G a (m.1, m.2.1, m.2.2.1, (mdTies m.2.2.2.1 r i j d), m.2.2.2.2.1, m.2.2.2.2.2.1, m.2.2.2.2.2.2)) t9) A9) [.ref (a 0), .int (nI r), .int (nI i), .int (nI j), .int d].toArray s9 0 0 A9) (F0 m9 51 ls []) := by
    intro nf
    induction nf with
    | zero => intro k hnf hk hz; exact absurd hnf (Nat.not_lt_zero _)
    | succ nf ih_51 =>
      intro k hnf hk hz H locs ls hw hl
      refine lv_iload hx hb dX5_ties_51 (lv_at hl 9 rfl) ?_
      refine lv_bipush (v := 17) hx hb dX5_ties_53 (by decide) ?_
      refine lv_iload_n hx hb dX5_ties_55 rfl (lv_at hl 1 rfl) ?_
      refine lv_imul hx hb dX5_ties_56 ?_
      refine r_top (y := nI (17 * r)) (pk_mul 17 r) ?_
      refine lv_bipush (v := 17) hx hb dX5_ties_57 (by decide) ?_
      refine lv_iadd hx hb dX5_ties_59 ?_
      refine r_top (y := nI ((17 * r) + 17)) (nI_add (17 * r) 17) ?_
      refine lv_icmp_ge (tgt := 119) hx hb dX5_ties_60 (by decide) (fun c_60 => ?_) (fun c_60 => ?_)
      · have hx_60 : 17 * r + 17 ≤ 17 * r + k := ct_ge (k := 17 * r + k) (n := 17 * r + 17) (by omega) (by omega) c_60
        exact m_vret hx hb hr hlocks hK hw (Nat.le_of_ble_eq_true rfl) (Nat.le_of_ble_eq_true rfl) dX5_ties_119 (show wMd G a (m.1, m.2.1, m.2.2.1, (mdTiesK m.2.2.2.1 r i j d k), m.2.2.2.2.1, m.2.2.2.2.2.1, m.2.2.2.2.2.2) = wMd G a (m.1, m.2.1, m.2.2.1, (mdTies m.2.2.2.1 r i j d), m.2.2.2.2.1, m.2.2.2.2.2.1, m.2.2.2.2.2.2) by rw [show k = 17 by omega]; unfold mdTies; rw [if_neg (by rcases hz with h | h; exact absurd h (by omega); exact h)])
      · have hc_60 : 17 * r + k < 17 * r + 17 := ct_nge (k := 17 * r + k) (n := 17 * r + 17) (by omega) (by omega) c_60
        refine lv_iload hx hb dX5_ties_63 (lv_at hl 7 rfl) ?_
        refine lv_aload_n hx hb dX5_ties_65 rfl (lv_at hl 0 rfl) ?_
        refine r_get (ci := 5) (v := .ref (a 10)) (C := RX5) (T := TX5) (N := 29) hx hb hts wiX5_ties_ties_X5 hown hK hw 0 rfl rfl 12 (by decide) wmX5_ties_ties_0 (fun _ h9 => h9) rfl dX5_ties_66 ?_
        refine lv_iload hx hb dX5_ties_69 (lv_at hl 5 rfl) ?_
        refine r_iald (v := ((mdTiesK m.2.2.2.1 r i j d k).2.1) ((17 * r) + i)) hx hb hK hw 10 rfl ((17 * r) + i) rfl (by omega) (by decide) rfl dX5_ties_71 ?_
        refine lv_icmp_eq (tgt := 119) hx hb dX5_ties_72 (by decide) (fun c_72 => ?_) (fun c_72 => ?_)
        · have hk0 : k = 0 := by rcases hz with h | h; exact h; exact absurd (c_72.trans (mdTiesK_i h k)) h
          exact m_vret hx hb hr hlocks hK hw (Nat.le_of_ble_eq_true rfl) (Nat.le_of_ble_eq_true rfl) dX5_ties_119 (show wMd G a (m.1, m.2.1, m.2.2.1, (mdTiesK m.2.2.2.1 r i j d k), m.2.2.2.2.1, m.2.2.2.2.2.1, m.2.2.2.2.2.2) = wMd G a (m.1, m.2.1, m.2.2.1, (mdTies m.2.2.2.1 r i j d), m.2.2.2.2.1, m.2.2.2.2.2.1, m.2.2.2.2.2.2) by subst hk0; unfold mdTies; rw [if_pos (show m.2.2.2.1.2.1 (17 * r + j) = m.2.2.2.1.2.1 (17 * r + i) from c_72)]; rfl)
        · have hne : ¬ m.2.2.2.1.2.1 (17 * r + j) = m.2.2.2.1.2.1 (17 * r + i) := fun h => c_72 (by rcases hz with rfl | hz; exact h; exact absurd h hz)
          refine lv_aload_n hx hb dX5_ties_75 rfl (lv_at hl 0 rfl) ?_
          refine r_get (ci := 5) (v := .ref (a 10)) (C := RX5) (T := TX5) (N := 29) hx hb hts wiX5_ties_ties_X5 hown hK hw 0 rfl rfl 12 (by decide) wmX5_ties_ties_0 (fun _ h9 => h9) rfl dX5_ties_76 ?_
          refine lv_iload hx hb dX5_ties_79 (lv_at hl 9 rfl) ?_
          refine r_iald (v := ((mdTiesK m.2.2.2.1 r i j d k).2.1) (17 * r + k)) hx hb hK hw 10 rfl (17 * r + k) rfl (by omega) (by decide) rfl dX5_ties_81 ?_
          refine lv_iload hx hb dX5_ties_82 (lv_at hl 7 rfl) ?_
          refine lv_icmp_ne (tgt := 113) hx hb dX5_ties_84 (by decide) (fun c_84 => ?_) (fun c_84 => ?_)
          · refine lv_iinc (v := nI ((17 * r + k) + 1)) (lv' := [(9, .int (nI ((17 * r + k) + 1))), (0, .ref (a 0)), (1, .int (nI r)), (2, .int (nI i)), (3, .int (nI j)), (4, .int d), (5, .int (nI ((17 * r) + i))), (6, .int (nI ((17 * r) + j))), (7, .int (m.2.2.2.1.2.1 ((17 * r) + j))), (8, .int (((m.2.2.2.1.2.2 ((17 * r) + i)) + d) - (m.2.2.2.1.2.2 ((17 * r) + j))))]) hx hb dX5_ties_113 hl (k := 9) rfl (nI_add (17 * r + k) 1) (by decide) rfl (fun ls hl => ?_)
            refine lv_goto (tgt := 51) hx hb dX5_ties_116 (by decide) ?_
            exact ih_51 (k + 1) (by omega) (by first | assumption | omega | rfl) (Or.inr hne) _ _ _ (wW.eq (show wMd G a (m.1, m.2.1, m.2.2.1, (mdTiesK m.2.2.2.1 r i j d k), m.2.2.2.2.1, m.2.2.2.2.2.1, m.2.2.2.2.2.2) = wMd G a (m.1, m.2.1, m.2.2.1, (mdTiesK m.2.2.2.1 r i j d (k + 1)), m.2.2.2.2.1, m.2.2.2.2.2.1, m.2.2.2.2.2.2) from (by simp only [mdTiesK, if_neg c_84])) hw) (lv_sub hl [1, 2, 3, 4, 5, 6, 7, 8, 9, 0] rfl)
          · refine lv_aload_n hx hb dX5_ties_87 rfl (lv_at hl 0 rfl) ?_
            refine r_get (ci := 5) (v := .ref (a 10)) (C := RX5) (T := TX5) (N := 29) hx hb hts wiX5_ties_ties_X5 hown hK hw 0 rfl rfl 12 (by decide) wmX5_ties_ties_0 (fun _ h9 => h9) rfl dX5_ties_88 ?_
            refine lv_iload hx hb dX5_ties_91 (lv_at hl 9 rfl) ?_
            refine lv_aload_n hx hb dX5_ties_93 rfl (lv_at hl 0 rfl) ?_
            refine r_get (ci := 5) (v := .ref (a 10)) (C := RX5) (T := TX5) (N := 29) hx hb hts wiX5_ties_ties_X5 hown hK hw 0 rfl rfl 12 (by decide) wmX5_ties_ties_0 (fun _ h9 => h9) rfl dX5_ties_94 ?_
            refine lv_iload hx hb dX5_ties_97 (lv_at hl 5 rfl) ?_
            refine r_iald (v := ((mdTiesK m.2.2.2.1 r i j d k).2.1) ((17 * r) + i)) hx hb hK hw 10 rfl ((17 * r) + i) rfl (by omega) (by decide) rfl dX5_ties_99 ?_
            refine r_iast hx hb hK hw 10 rfl (17 * r + k) rfl (by omega) (by decide) dX5_ties_100 (ws' := wMd G a (m.1, m.2.1, m.2.2.1, ((mdTiesK m.2.2.2.1 r i j d k).1, (upd ((mdTiesK m.2.2.2.1 r i j d k).2.1) (17 * r + k) (((mdTiesK m.2.2.2.1 r i j d k).2.1) ((17 * r) + i))), (mdTiesK m.2.2.2.1 r i j d k).2.2), m.2.2.2.2.1, m.2.2.2.2.2.1, m.2.2.2.2.2.2)) rfl (fun H locs hw => ?_)
            refine lv_aload_n hx hb dX5_ties_101 rfl (lv_at hl 0 rfl) ?_
            refine r_get (ci := 5) (v := .ref (a 11)) (C := RX5) (T := TX5) (N := 29) hx hb hts wiX5_ties_ties_X5 hown hK hw 0 rfl rfl 13 (by decide) wmX5_ties_ties_1 (fun _ h9 => h9) rfl dX5_ties_102 ?_
            refine lv_iload hx hb dX5_ties_105 (lv_at hl 9 rfl) ?_
            refine lv_dup2_11 hx hb dX5_ties_107 rfl rfl ?_
            refine r_iald (v := ((mdTiesK m.2.2.2.1 r i j d k).2.2) (17 * r + k)) hx hb hK hw 11 rfl (17 * r + k) rfl (by omega) (by decide) rfl dX5_ties_108 ?_
            refine lv_iload hx hb dX5_ties_109 (lv_at hl 8 rfl) ?_
            refine lv_iadd hx hb dX5_ties_111 ?_
            refine r_iast hx hb hK hw 11 rfl (17 * r + k) rfl (by omega) (by decide) dX5_ties_112 (ws' := wMd G a (m.1, m.2.1, m.2.2.1, ((mdTiesK m.2.2.2.1 r i j d k).1, (upd ((mdTiesK m.2.2.2.1 r i j d k).2.1) (17 * r + k) (((mdTiesK m.2.2.2.1 r i j d k).2.1) ((17 * r) + i))), (upd ((mdTiesK m.2.2.2.1 r i j d k).2.2) (17 * r + k) ((((mdTiesK m.2.2.2.1 r i j d k).2.2) (17 * r + k)) + (((m.2.2.2.1.2.2 ((17 * r) + i)) + d) - (m.2.2.2.1.2.2 ((17 * r) + j)))))), m.2.2.2.2.1, m.2.2.2.2.2.1, m.2.2.2.2.2.2)) rfl (fun H locs hw => ?_)
            refine lv_iinc (v := nI ((17 * r + k) + 1)) (lv' := [(9, .int (nI ((17 * r + k) + 1))), (0, .ref (a 0)), (1, .int (nI r)), (2, .int (nI i)), (3, .int (nI j)), (4, .int d), (5, .int (nI ((17 * r) + i))), (6, .int (nI ((17 * r) + j))), (7, .int (m.2.2.2.1.2.1 ((17 * r) + j))), (8, .int (((m.2.2.2.1.2.2 ((17 * r) + i)) + d) - (m.2.2.2.1.2.2 ((17 * r) + j))))]) hx hb dX5_ties_113 hl (k := 9) rfl (nI_add (17 * r + k) 1) (by decide) rfl (fun ls hl => ?_)
            refine lv_goto (tgt := 51) hx hb dX5_ties_116 (by decide) ?_
            exact ih_51 (k + 1) (by omega) (by first | assumption | omega | rfl) (Or.inr hne) _ _ _ (wW.eq (show wMd G a (m.1, m.2.1, m.2.2.1, ((mdTiesK m.2.2.2.1 r i j d k).1, (upd ((mdTiesK m.2.2.2.1 r i j d k).2.1) (17 * r + k) (((mdTiesK m.2.2.2.1 r i j d k).2.1) ((17 * r) + i))), (upd ((mdTiesK m.2.2.2.1 r i j d k).2.2) (17 * r + k) ((((mdTiesK m.2.2.2.1 r i j d k).2.2) (17 * r + k)) + (((m.2.2.2.1.2.2 ((17 * r) + i)) + d) - (m.2.2.2.1.2.2 ((17 * r) + j)))))), m.2.2.2.2.1, m.2.2.2.2.2.1, m.2.2.2.2.2.2) = wMd G a (m.1, m.2.1, m.2.2.1, (mdTiesK m.2.2.2.1 r i j d (k + 1)), m.2.2.2.2.1, m.2.2.2.2.2.1, m.2.2.2.2.2.2) from (by simp only [mdTiesK, if_pos c_84])) hw) (lv_sub hl [1, 2, 3, 4, 5, 6, 7, 8, 9, 0] rfl)
  exact loop_51 ((17 - 0) + 1) 0 (Nat.lt_succ_self _) (by first | assumption | omega | rfl) (Or.inl rfl) _ _ _ (wW.eq (show wMd G a m = wMd G a (m.1, m.2.1, m.2.2.1, (mdTiesK m.2.2.2.1 r i j d 0), m.2.2.2.2.1, m.2.2.2.2.2.1, m.2.2.2.2.2.2) from rfl) hw) (lv_sub hl [5, 6, 7, 8, 9, 4, 3, 2, 1, 0] rfl)

theorem wiX5_solves_solves_X5 : ∀ w ∈ wsX50, w ∈ wsX5_solves := by decide +kernel
theorem wmX5_solves_solves_0 : Cond.fieldLink RX5 85 "PartSketchModel" "wishes" "I" ∈ wsX5_solves := by decide +kernel
theorem wmX5_solves_solves_1 : Cond.fieldLink RX5 19 "PartSketchModel" "one" "[I" ∈ wsX5_solves := by decide +kernel
theorem wmX5_solves_solves_2 : Cond.fieldLink RX5 16 "PartSketchModel" "kind" "[I" ∈ wsX5_solves := by decide +kernel
theorem wmX5_solves_solves_3 : Cond.fieldLink RX5 7 "PartSketchModel" "hintX" "[I" ∈ wsX5_solves := by decide +kernel
theorem wmX5_solves_solves_4 : Cond.fieldLink RX5 13 "PartSketchModel" "hintY" "[I" ∈ wsX5_solves := by decide +kernel
theorem wmX5_solves_solves_5 : Cond.fieldLink RX5 28 "PartSketchModel" "state" "[I" ∈ wsX5_solves := by decide +kernel
theorem wmX5_solves_solves_6 : Cond.fieldLink RX5 22 "PartSketchModel" "other" "[I" ∈ wsX5_solves := by decide +kernel
theorem wmX5_solves_solves_7 : Cond.fieldLink RX5 25 "PartSketchModel" "size" "[I" ∈ wsX5_solves := by decide +kernel
theorem wmX5_solves_solves_8 : Cond.fieldLink RX5 38 "PartSketchModel" "group" "[I" ∈ wsX5_solves := by decide +kernel
theorem wmX5_solves_solves_9 : Cond.fieldLink RX5 41 "PartSketchModel" "off" "[I" ∈ wsX5_solves := by decide +kernel
set_option maxHeartbeats 4000000 in
set_option maxRecDepth 100000 in
/-- solves -/
theorem c_solves (l : Launch) (G : gT) (a : aMd) (m : tMd) (hok : mdOk m.2.1) (sz : Nat) : MV l yX5_solves wsX5_solves ({ frames := 1, cells := 0, slots := 0, locals := 29 }) G [.ref (a 0)] (wMd G a m) (wMd G a (m.1, m.2.1, m.2.2.1, (mdSolve m.2.1 m.2.2.2.1), m.2.2.2.2.1, m.2.2.2.2.2.1, m.2.2.2.2.2.2)) sz 0 0 := by
  obtain ⟨hnp, hnw, hok2⟩ := hok
  refine m_of (Qc := fun A9 => (va_Qv (fun (_ : Unit) => True) (fun _ t9 => wPost G A9 (wMd G a (m.1, m.2.1, m.2.2.1, (mdSolve m.2.1 m.2.2.2.1), m.2.2.2.2.1, m.2.2.2.2.2.1, m.2.2.2.2.2.2)) t9) A9)) (cc := cX5_solves) (maxL := 5) (ret := none) (by decide) rfl (Nat.le_of_ble_eq_true rfl) ?_
  intro p9 e9 s9 m9 A9 be9 mt9 c9 H locs ls hx hb hr hts hown hlocks hin hml hK hA hw hl
  have hl : lv_has ls 5 [(0, .ref (a 0))] := hl
  refine lv_iconst (v := 0) hx hb dX5_solves_0 (by decide) ?_
  refine lv_istore_n (lv' := [(1, .int 0), (0, .ref (a 0))]) hx hb dX5_solves_1 rfl hl (by decide) rfl (fun ls hl => ?_)
  have loop_2 : ∀ (nf : Nat) (k : Nat) (hnf : (34 - k) < nf) (hk : k ≤ 34), ∀ (H : Heap) (locs : List Loc) (ls : Array Slot), wW G A9 s9.heap (wMd G a (m.1, m.2.1, m.2.2.1, (mdLooseK m.2.2.2.1 k), m.2.2.2.2.1, m.2.2.2.2.2.1, m.2.2.2.2.2.2)) H locs → lv_has ls 5 [(0, .ref (a 0)), (1, .int (nI k))] → W p9 l e9 ({ frames := 1, cells := 0, slots := 0, locals := 29 }) s9 m9 [.ref (a 0)].toArray be9 mt9 c9 H locs 0 0 (MQ be9 (va_Qv (fun (_ : Unit) => True) (fun _ t9 => wPost G A9 (wMd G a (m.1, m.2.1, m.2.2.1, (mdSolve m.2.1 m.2.2.2.1), m.2.2.2.2.1, m.2.2.2.2.2.1, m.2.2.2.2.2.2)) t9) A9) [.ref (a 0)].toArray s9 0 0 A9) (F0 m9 2 ls []) := by
    intro nf
    induction nf with
    | zero => intro k hnf hk; exact absurd hnf (Nat.not_lt_zero _)
    | succ nf ih_2 =>
      intro k hnf hk H locs ls hw hl
      refine lv_iload_n hx hb dX5_solves_2 rfl (lv_at hl 1 rfl) ?_
      refine lv_bipush (v := 34) hx hb dX5_solves_3 (by decide) ?_
      refine lv_icmp_ge (tgt := 28) hx hb dX5_solves_5 (by decide) (fun c_5 => ?_) (fun c_5 => ?_)
      · have hx_5 : 34 ≤ k := ct_ge (k := k) (n := 34) (by omega) (by omega) c_5
        refine lv_iconst (v := 0) hx hb dX5_solves_28 (by decide) ?_
        refine lv_istore_n (lv' := [(1, .int 0), (0, .ref (a 0))]) hx hb dX5_solves_29 rfl hl (by decide) rfl (fun ls hl => ?_)
        have loop_30 : ∀ (nf : Nat) (k : Nat) (hnf : (m.2.1.2.2.2.1 - k) < nf) (hk : k ≤ m.2.1.2.2.2.1), ∀ (H : Heap) (locs : List Loc) (ls : Array Slot), wW G A9 s9.heap (wMd G a (m.1, m.2.1, m.2.2.1, (mdSolveK m.2.1 m.2.2.2.1 k), m.2.2.2.2.1, m.2.2.2.2.2.1, m.2.2.2.2.2.2)) H locs → lv_has ls 5 [(0, .ref (a 0)), (1, .int (nI k))] → W p9 l e9 ({ frames := 1, cells := 0, slots := 0, locals := 29 }) s9 m9 [.ref (a 0)].toArray be9 mt9 c9 H locs 0 0 (MQ be9 (va_Qv (fun (_ : Unit) => True) (fun _ t9 => wPost G A9 (wMd G a (m.1, m.2.1, m.2.2.1, (mdSolve m.2.1 m.2.2.2.1), m.2.2.2.2.1, m.2.2.2.2.2.1, m.2.2.2.2.2.2)) t9) A9) [.ref (a 0)].toArray s9 0 0 A9) (F0 m9 30 ls []) := by
          intro nf
          induction nf with
          | zero => intro k hnf hk; exact absurd hnf (Nat.not_lt_zero _)
          | succ nf ih_30 =>
            intro k hnf hk H locs ls hw hl
            refine lv_iload_n hx hb dX5_solves_30 rfl (lv_at hl 1 rfl) ?_
            refine lv_aload_n hx hb dX5_solves_31 rfl (lv_at hl 0 rfl) ?_
            refine r_get (ci := 5) (v := .int (nI m.2.1.2.2.2.1)) (C := RX5) (T := TX5) (N := 29) hx hb hts wiX5_solves_solves_X5 hown hK hw 0 rfl rfl 4 (by decide) wmX5_solves_solves_0 (fun _ h9 => h9) rfl dX5_solves_32 ?_
            refine lv_icmp_ge (tgt := 230) hx hb dX5_solves_35 (by decide) (fun c_35 => ?_) (fun c_35 => ?_)
            · have hx_35 : m.2.1.2.2.2.1 ≤ k := ct_ge (k := k) (n := m.2.1.2.2.2.1) (by omega) (by omega) c_35
              exact m_vret hx hb hr hlocks hK hw (Nat.le_of_ble_eq_true rfl) (Nat.le_of_ble_eq_true rfl) dX5_solves_230 (show wMd G a (m.1, m.2.1, m.2.2.1, (mdSolveK m.2.1 m.2.2.2.1 k), m.2.2.2.2.1, m.2.2.2.2.2.1, m.2.2.2.2.2.2) = wMd G a (m.1, m.2.1, m.2.2.1, (mdSolve m.2.1 m.2.2.2.1), m.2.2.2.2.1, m.2.2.2.2.2.1, m.2.2.2.2.2.2) by rw [show k = m.2.1.2.2.2.1 by omega]; rfl)
            · have hc_35 : k < m.2.1.2.2.2.1 := ct_nge (k := k) (n := m.2.1.2.2.2.1) (by omega) (by omega) c_35
              obtain ⟨hkd, hon, hot⟩ := hok2 k hc_35
              refine lv_aload_n hx hb dX5_solves_38 rfl (lv_at hl 0 rfl) ?_
              refine r_get (ci := 5) (v := .ref (a 4)) (C := RX5) (T := TX5) (N := 29) hx hb hts wiX5_solves_solves_X5 hown hK hw 0 rfl rfl 6 (by decide) wmX5_solves_solves_1 (fun _ h9 => h9) rfl dX5_solves_39 ?_
              refine lv_iload_n hx hb dX5_solves_42 rfl (lv_at hl 1 rfl) ?_
              refine r_iald (v := nI (m.2.1.2.2.2.2.2.1 k)) hx hb hK hw 4 rfl k rfl (by omega) (by decide) rfl dX5_solves_43 ?_
              refine lv_istore_n (lv' := [(2, .int (nI (m.2.1.2.2.2.2.2.1 k))), (0, .ref (a 0)), (1, .int (nI k))]) hx hb dX5_solves_44 rfl hl (by decide) rfl (fun ls hl => ?_)
              refine lv_aload_n hx hb dX5_solves_45 rfl (lv_at hl 1 rfl) ?_
              refine r_get (ci := 5) (v := .ref (a 3)) (C := RX5) (T := TX5) (N := 29) hx hb hts wiX5_solves_solves_X5 hown hK hw 0 rfl rfl 5 (by decide) wmX5_solves_solves_2 (fun _ h9 => h9) rfl dX5_solves_46 ?_
              refine lv_iload_n hx hb dX5_solves_49 rfl (lv_at hl 2 rfl) ?_
              refine r_iald (v := nI (m.2.1.2.2.2.2.1 k)) hx hb hK hw 3 rfl k rfl (by omega) (by decide) rfl dX5_solves_50 ?_
              refine lv_iconst (v := 2) hx hb dX5_solves_51 (by decide) ?_
              refine lv_icmp_ge (tgt := 119) hx hb dX5_solves_52 (by decide) (fun c_52 => ?_) (fun c_52 => ?_)
              · refine lv_aload_n hx hb dX5_solves_119 rfl (lv_at hl 1 rfl) ?_
                refine lv_iconst (v := 0) hx hb dX5_solves_120 (by decide) ?_
                refine lv_bipush (v := 16) hx hb dX5_solves_121 (by decide) ?_
                refine lv_iload_n hx hb dX5_solves_123 rfl (lv_at hl 0 rfl) ?_
                refine lv_aload_n hx hb dX5_solves_124 rfl (lv_at hl 1 rfl) ?_
                refine r_get (ci := 5) (v := .ref (a 1)) (C := RX5) (T := TX5) (N := 29) hx hb hts wiX5_solves_solves_X5 hown hK hw 0 rfl rfl 2 (by decide) wmX5_solves_solves_3 (fun _ h9 => h9) rfl dX5_solves_125 ?_
                refine lv_iload_n hx hb dX5_solves_128 rfl (lv_at hl 0 rfl) ?_
                refine r_iald (v := m.2.1.2.1 (m.2.1.2.2.2.2.2.1 k)) hx hb hK hw 1 rfl (m.2.1.2.2.2.2.2.1 k) rfl (by omega) (by decide) rfl dX5_solves_129 ?_
                have hwc : wW G A9 s9.heap (([] : va_W) ++ ((wMd G a (m.1, m.2.1, m.2.2.1, (mdSolveK m.2.1 m.2.2.2.1 k), m.2.2.2.2.1, m.2.2.2.2.2.1, m.2.2.2.2.2.2)) ++ ([] : va_W))) H locs := hw
                refine r_calli (res := (mdHolds (mdSolveK m.2.1 m.2.2.2.1 k) 0 16 (m.2.1.2.2.2.2.2.1 k) (m.2.1.2.1 (m.2.1.2.2.2.2.2.1 k)))) (u := ([] : va_W)) (w := wMd G a (m.1, m.2.1, m.2.2.1, (mdSolveK m.2.1 m.2.2.2.1 k), m.2.2.2.2.1, m.2.2.2.2.2.1, m.2.2.2.2.2.2)) (v := ([] : va_W)) (va_runV (As := [.int 0, .int 16, .int (nI (m.2.1.2.2.2.2.2.1 k)), .int (m.2.1.2.1 (m.2.1.2.2.2.2.2.1 k))]) (rest := []) ⟨hx, hb, hml, hown, hts⟩ (c_holds l G a (m.1, m.2.1, m.2.2.1, (mdSolveK m.2.1 m.2.2.2.1 k), m.2.2.2.2.1, m.2.2.2.2.2.1, m.2.2.2.2.2.2) 0 16 (m.2.1.2.2.2.2.2.1 k) (m.2.1.2.1 (m.2.1.2.2.2.2.2.1 k)) (by first | assumption | omega | decide) (by first | assumption | omega | decide) (by first | assumption | omega | decide) H.size) (cwV 4 hts gX5_solves_X5_holds rfl rfl rfl (by decide +kernel) ⟨Nat.le_of_ble_eq_true rfl, Nat.le_of_ble_eq_true rfl⟩) (r_preV (ci := 5) (q0 := 0) hK hwc rfl rfl rfl) rfl rfl hl.1 rfl (lv_room (Nat.le_of_ble_eq_true rfl)) dX5_solves_130 ⟨Nat.le_of_ble_eq_true rfl, Nat.le_of_ble_eq_true rfl⟩) hwc hA rfl rfl (fun H locs hw => ?_)
                have hw : wW G A9 s9.heap (wMd G a (m.1, m.2.1, m.2.2.1, (mdSolveK m.2.1 m.2.2.2.1 k), m.2.2.2.2.1, m.2.2.2.2.2.1, m.2.2.2.2.2.2)) H locs := hw
                refine lv_istore_n (lv' := [(3, .int (mdHolds (mdSolveK m.2.1 m.2.2.2.1 k) 0 16 (m.2.1.2.2.2.2.2.1 k) (m.2.1.2.1 (m.2.1.2.2.2.2.2.1 k)))), (2, .int (nI (m.2.1.2.2.2.2.2.1 k))), (0, .ref (a 0)), (1, .int (nI k))]) hx hb dX5_solves_133 rfl hl (by decide) rfl (fun ls hl => ?_)
                refine lv_aload_n hx hb dX5_solves_134 rfl (lv_at hl 2 rfl) ?_
                refine lv_iconst (v := 1) hx hb dX5_solves_135 (by decide) ?_
                refine lv_bipush (v := 16) hx hb dX5_solves_136 (by decide) ?_
                refine lv_iload_n hx hb dX5_solves_138 rfl (lv_at hl 1 rfl) ?_
                refine lv_aload_n hx hb dX5_solves_139 rfl (lv_at hl 2 rfl) ?_
                refine r_get (ci := 5) (v := .ref (a 2)) (C := RX5) (T := TX5) (N := 29) hx hb hts wiX5_solves_solves_X5 hown hK hw 0 rfl rfl 3 (by decide) wmX5_solves_solves_4 (fun _ h9 => h9) rfl dX5_solves_140 ?_
                refine lv_iload_n hx hb dX5_solves_143 rfl (lv_at hl 1 rfl) ?_
                refine r_iald (v := m.2.1.2.2.1 (m.2.1.2.2.2.2.2.1 k)) hx hb hK hw 2 rfl (m.2.1.2.2.2.2.2.1 k) rfl (by omega) (by decide) rfl dX5_solves_144 ?_
                have hwc : wW G A9 s9.heap (([] : va_W) ++ ((wMd G a (m.1, m.2.1, m.2.2.1, (mdSolveK m.2.1 m.2.2.2.1 k), m.2.2.2.2.1, m.2.2.2.2.2.1, m.2.2.2.2.2.2)) ++ ([] : va_W))) H locs := hw
                refine r_calli (res := (mdHolds (mdSolveK m.2.1 m.2.2.2.1 k) 1 16 (m.2.1.2.2.2.2.2.1 k) (m.2.1.2.2.1 (m.2.1.2.2.2.2.2.1 k)))) (u := ([] : va_W)) (w := wMd G a (m.1, m.2.1, m.2.2.1, (mdSolveK m.2.1 m.2.2.2.1 k), m.2.2.2.2.1, m.2.2.2.2.2.1, m.2.2.2.2.2.2)) (v := ([] : va_W)) (va_runV (As := [.int 1, .int 16, .int (nI (m.2.1.2.2.2.2.2.1 k)), .int (m.2.1.2.2.1 (m.2.1.2.2.2.2.2.1 k))]) (rest := []) ⟨hx, hb, hml, hown, hts⟩ (c_holds l G a (m.1, m.2.1, m.2.2.1, (mdSolveK m.2.1 m.2.2.2.1 k), m.2.2.2.2.1, m.2.2.2.2.2.1, m.2.2.2.2.2.2) 1 16 (m.2.1.2.2.2.2.2.1 k) (m.2.1.2.2.1 (m.2.1.2.2.2.2.2.1 k)) (by first | assumption | omega | decide) (by first | assumption | omega | decide) (by first | assumption | omega | decide) H.size) (cwV 4 hts gX5_solves_X5_holds rfl rfl rfl (by decide +kernel) ⟨Nat.le_of_ble_eq_true rfl, Nat.le_of_ble_eq_true rfl⟩) (r_preV (ci := 5) (q0 := 0) hK hwc rfl rfl rfl) rfl rfl hl.1 rfl (lv_room (Nat.le_of_ble_eq_true rfl)) dX5_solves_145 ⟨Nat.le_of_ble_eq_true rfl, Nat.le_of_ble_eq_true rfl⟩) hwc hA rfl rfl (fun H locs hw => ?_)
                have hw : wW G A9 s9.heap (wMd G a (m.1, m.2.1, m.2.2.1, (mdSolveK m.2.1 m.2.2.2.1 k), m.2.2.2.2.1, m.2.2.2.2.2.1, m.2.2.2.2.2.2)) H locs := hw
                refine lv_istore (lv' := [(4, .int (mdHolds (mdSolveK m.2.1 m.2.2.2.1 k) 1 16 (m.2.1.2.2.2.2.2.1 k) (m.2.1.2.2.1 (m.2.1.2.2.2.2.2.1 k)))), (3, .int (mdHolds (mdSolveK m.2.1 m.2.2.2.1 k) 0 16 (m.2.1.2.2.2.2.2.1 k) (m.2.1.2.1 (m.2.1.2.2.2.2.2.1 k)))), (2, .int (nI (m.2.1.2.2.2.2.2.1 k))), (0, .ref (a 0)), (1, .int (nI k))]) hx hb dX5_solves_148 hl (by decide) rfl (fun ls hl => ?_)
                have join_186 : ∀ (v : Int32) (hv : v = mdV2 m.2.1 (mdSolveK m.2.1 m.2.2.2.1 k) k) (H : Heap) (locs : List Loc) (ls : Array Slot), wW G A9 s9.heap (wMd G a (m.1, m.2.1, m.2.2.1, (mdSolveK m.2.1 m.2.2.2.1 k), m.2.2.2.2.1, m.2.2.2.2.2.1, m.2.2.2.2.2.2)) H locs → lv_has ls 5 [(0, .ref (a 0)), (1, .int (nI k)), (2, .int (nI (m.2.1.2.2.2.2.2.1 k))), (3, .int (mdHolds (mdSolveK m.2.1 m.2.2.2.1 k) 0 16 (m.2.1.2.2.2.2.2.1 k) (m.2.1.2.1 (m.2.1.2.2.2.2.2.1 k)))), (4, .int (mdHolds (mdSolveK m.2.1 m.2.2.2.1 k) 1 16 (m.2.1.2.2.2.2.2.1 k) (m.2.1.2.2.1 (m.2.1.2.2.2.2.2.1 k))))] → W p9 l e9 ({ frames := 1, cells := 0, slots := 0, locals := 29 }) s9 m9 [.ref (a 0)].toArray be9 mt9 c9 H locs 0 0 (MQ be9 (va_Qv (fun (_ : Unit) => True) (fun _ t9 => wPost G A9 (wMd G a (m.1, m.2.1, m.2.2.1, (mdSolve m.2.1 m.2.2.2.1), m.2.2.2.2.1, m.2.2.2.2.2.1, m.2.2.2.2.2.2)) t9) A9) [.ref (a 0)].toArray s9 0 0 A9) (F0 m9 186 ls [.int v, .int (nI k), .ref (a 7)]) := by
                  intro v hv H locs ls hw hl
                  refine r_iast hx hb hK hw 7 rfl k rfl (by omega) (by decide) dX5_solves_186 (ws' := wMd G a (m.1, m.2.1, m.2.2.1, ((upd ((mdSolveK m.2.1 m.2.2.2.1 k).1) k v), (mdSolveK m.2.1 m.2.2.2.1 k).2.1, (mdSolveK m.2.1 m.2.2.2.1 k).2.2), m.2.2.2.2.1, m.2.2.2.2.2.1, m.2.2.2.2.2.2)) rfl (fun H locs hw => ?_)
                  refine lv_aload_n hx hb dX5_solves_187 rfl (lv_at hl 0 rfl) ?_
                  refine r_get (ci := 5) (v := .ref (a 7)) (C := RX5) (T := TX5) (N := 29) hx hb hts wiX5_solves_solves_X5 hown hK hw 0 rfl rfl 9 (by decide) wmX5_solves_solves_5 (fun _ h9 => h9) rfl dX5_solves_188 ?_
                  refine lv_iload_n hx hb dX5_solves_191 rfl (lv_at hl 1 rfl) ?_
                  refine r_iald (v := (upd ((mdSolveK m.2.1 m.2.2.2.1 k).1) k v) k) hx hb hK hw 7 rfl k rfl (by omega) (by decide) rfl dX5_solves_192 ?_
                  refine r_top (y := v) pk_us ?_
                  refine lv_if_ne (tgt := 224) hx hb dX5_solves_193 (by decide) (fun c_193 => ?_) (fun c_193 => ?_)
                  · refine lv_iinc (v := nI (k + 1)) (lv' := [(1, .int (nI (k + 1))), (0, .ref (a 0)), (2, .int (nI (m.2.1.2.2.2.2.2.1 k))), (3, .int (mdHolds (mdSolveK m.2.1 m.2.2.2.1 k) 0 16 (m.2.1.2.2.2.2.2.1 k) (m.2.1.2.1 (m.2.1.2.2.2.2.2.1 k)))), (4, .int (mdHolds (mdSolveK m.2.1 m.2.2.2.1 k) 1 16 (m.2.1.2.2.2.2.2.1 k) (m.2.1.2.2.1 (m.2.1.2.2.2.2.2.1 k))))]) hx hb dX5_solves_224 hl (k := 1) rfl (nI_add k 1) (by decide) rfl (fun ls hl => ?_)
                    refine lv_goto (tgt := 30) hx hb dX5_solves_227 (by decide) ?_
                    exact ih_30 (k + 1) (by omega) (by first | assumption | omega | rfl) _ _ _ (wW.eq (show wMd G a (m.1, m.2.1, m.2.2.1, ((upd ((mdSolveK m.2.1 m.2.2.2.1 k).1) k v), (mdSolveK m.2.1 m.2.2.2.1 k).2.1, (mdSolveK m.2.1 m.2.2.2.1 k).2.2), m.2.2.2.2.1, m.2.2.2.2.2.1, m.2.2.2.2.2.2) = wMd G a (m.1, m.2.1, m.2.2.1, (mdSolveK m.2.1 m.2.2.2.1 (k + 1)), m.2.2.2.2.1, m.2.2.2.2.2.1, m.2.2.2.2.2.2) from (by subst hv; simp only [mdSolveK, mdStep, if_pos c_52, if_neg c_193]; first | done | rfl)) hw) (lv_sub hl [1, 0] rfl)
                  · refine lv_aload_n hx hb dX5_solves_196 rfl (lv_at hl 0 rfl) ?_
                    refine lv_iconst (v := 0) hx hb dX5_solves_197 (by decide) ?_
                    refine lv_bipush (v := 16) hx hb dX5_solves_198 (by decide) ?_
                    refine lv_iload_n hx hb dX5_solves_200 rfl (lv_at hl 2 rfl) ?_
                    refine lv_aload_n hx hb dX5_solves_201 rfl (lv_at hl 0 rfl) ?_
                    refine r_get (ci := 5) (v := .ref (a 1)) (C := RX5) (T := TX5) (N := 29) hx hb hts wiX5_solves_solves_X5 hown hK hw 0 rfl rfl 2 (by decide) wmX5_solves_solves_3 (fun _ h9 => h9) rfl dX5_solves_202 ?_
                    refine lv_iload_n hx hb dX5_solves_205 rfl (lv_at hl 2 rfl) ?_
                    refine r_iald (v := m.2.1.2.1 (m.2.1.2.2.2.2.2.1 k)) hx hb hK hw 1 rfl (m.2.1.2.2.2.2.2.1 k) rfl (by omega) (by decide) rfl dX5_solves_206 ?_
                    have hwc : wW G A9 s9.heap (([] : va_W) ++ ((wMd G a (m.1, m.2.1, m.2.2.1, ((upd ((mdSolveK m.2.1 m.2.2.2.1 k).1) k v), (mdSolveK m.2.1 m.2.2.2.1 k).2.1, (mdSolveK m.2.1 m.2.2.2.1 k).2.2), m.2.2.2.2.1, m.2.2.2.2.2.1, m.2.2.2.2.2.2)) ++ ([] : va_W))) H locs := hw
                    refine r_callv (u := ([] : va_W)) (w := wMd G a (m.1, m.2.1, m.2.2.1, ((upd ((mdSolveK m.2.1 m.2.2.2.1 k).1) k v), (mdSolveK m.2.1 m.2.2.2.1 k).2.1, (mdSolveK m.2.1 m.2.2.2.1 k).2.2), m.2.2.2.2.1, m.2.2.2.2.2.1, m.2.2.2.2.2.2)) (v := ([] : va_W)) (va_runV (As := [.int 0, .int 16, .int (nI (m.2.1.2.2.2.2.2.1 k)), .int (m.2.1.2.1 (m.2.1.2.2.2.2.2.1 k))]) (rest := []) ⟨hx, hb, hml, hown, hts⟩ (c_ties l G a (m.1, m.2.1, m.2.2.1, ((upd ((mdSolveK m.2.1 m.2.2.2.1 k).1) k v), (mdSolveK m.2.1 m.2.2.2.1 k).2.1, (mdSolveK m.2.1 m.2.2.2.1 k).2.2), m.2.2.2.2.1, m.2.2.2.2.2.1, m.2.2.2.2.2.2) 0 16 (m.2.1.2.2.2.2.2.1 k) (m.2.1.2.1 (m.2.1.2.2.2.2.2.1 k)) (by first | assumption | omega | decide) (by first | assumption | omega | decide) (by first | assumption | omega | decide) H.size) (cwV 4 hts gX5_solves_X5_ties rfl rfl rfl (by decide +kernel) ⟨Nat.le_of_ble_eq_true rfl, Nat.le_of_ble_eq_true rfl⟩) (r_preV (ci := 5) (q0 := 0) hK hwc rfl rfl rfl) rfl rfl hl.1 rfl (lv_room (Nat.le_of_ble_eq_true rfl)) dX5_solves_207 ⟨Nat.le_of_ble_eq_true rfl, Nat.le_of_ble_eq_true rfl⟩) hwc hA rfl rfl (fun H locs hw => ?_)
                    have hw : wW G A9 s9.heap (wMd G a (m.1, m.2.1, m.2.2.1, (mdTies ((upd ((mdSolveK m.2.1 m.2.2.2.1 k).1) k v), (mdSolveK m.2.1 m.2.2.2.1 k).2.1, (mdSolveK m.2.1 m.2.2.2.1 k).2.2) 0 16 (m.2.1.2.2.2.2.2.1 k) (m.2.1.2.1 (m.2.1.2.2.2.2.2.1 k))), m.2.2.2.2.1, m.2.2.2.2.2.1, m.2.2.2.2.2.2)) H locs := hw
                    refine lv_aload_n hx hb dX5_solves_210 rfl (lv_at hl 0 rfl) ?_
                    refine lv_iconst (v := 1) hx hb dX5_solves_211 (by decide) ?_
                    refine lv_bipush (v := 16) hx hb dX5_solves_212 (by decide) ?_
                    refine lv_iload_n hx hb dX5_solves_214 rfl (lv_at hl 2 rfl) ?_
                    refine lv_aload_n hx hb dX5_solves_215 rfl (lv_at hl 0 rfl) ?_
                    refine r_get (ci := 5) (v := .ref (a 2)) (C := RX5) (T := TX5) (N := 29) hx hb hts wiX5_solves_solves_X5 hown hK hw 0 rfl rfl 3 (by decide) wmX5_solves_solves_4 (fun _ h9 => h9) rfl dX5_solves_216 ?_
                    refine lv_iload_n hx hb dX5_solves_219 rfl (lv_at hl 2 rfl) ?_
                    refine r_iald (v := m.2.1.2.2.1 (m.2.1.2.2.2.2.2.1 k)) hx hb hK hw 2 rfl (m.2.1.2.2.2.2.2.1 k) rfl (by omega) (by decide) rfl dX5_solves_220 ?_
                    have hwc : wW G A9 s9.heap (([] : va_W) ++ ((wMd G a (m.1, m.2.1, m.2.2.1, (mdTies ((upd ((mdSolveK m.2.1 m.2.2.2.1 k).1) k v), (mdSolveK m.2.1 m.2.2.2.1 k).2.1, (mdSolveK m.2.1 m.2.2.2.1 k).2.2) 0 16 (m.2.1.2.2.2.2.2.1 k) (m.2.1.2.1 (m.2.1.2.2.2.2.2.1 k))), m.2.2.2.2.1, m.2.2.2.2.2.1, m.2.2.2.2.2.2)) ++ ([] : va_W))) H locs := hw
                    refine r_callv (u := ([] : va_W)) (w := wMd G a (m.1, m.2.1, m.2.2.1, (mdTies ((upd ((mdSolveK m.2.1 m.2.2.2.1 k).1) k v), (mdSolveK m.2.1 m.2.2.2.1 k).2.1, (mdSolveK m.2.1 m.2.2.2.1 k).2.2) 0 16 (m.2.1.2.2.2.2.2.1 k) (m.2.1.2.1 (m.2.1.2.2.2.2.2.1 k))), m.2.2.2.2.1, m.2.2.2.2.2.1, m.2.2.2.2.2.2)) (v := ([] : va_W)) (va_runV (As := [.int 1, .int 16, .int (nI (m.2.1.2.2.2.2.2.1 k)), .int (m.2.1.2.2.1 (m.2.1.2.2.2.2.2.1 k))]) (rest := []) ⟨hx, hb, hml, hown, hts⟩ (c_ties l G a (m.1, m.2.1, m.2.2.1, (mdTies ((upd ((mdSolveK m.2.1 m.2.2.2.1 k).1) k v), (mdSolveK m.2.1 m.2.2.2.1 k).2.1, (mdSolveK m.2.1 m.2.2.2.1 k).2.2) 0 16 (m.2.1.2.2.2.2.2.1 k) (m.2.1.2.1 (m.2.1.2.2.2.2.2.1 k))), m.2.2.2.2.1, m.2.2.2.2.2.1, m.2.2.2.2.2.2) 1 16 (m.2.1.2.2.2.2.2.1 k) (m.2.1.2.2.1 (m.2.1.2.2.2.2.2.1 k)) (by first | assumption | omega | decide) (by first | assumption | omega | decide) (by first | assumption | omega | decide) H.size) (cwV 4 hts gX5_solves_X5_ties rfl rfl rfl (by decide +kernel) ⟨Nat.le_of_ble_eq_true rfl, Nat.le_of_ble_eq_true rfl⟩) (r_preV (ci := 5) (q0 := 0) hK hwc rfl rfl rfl) rfl rfl hl.1 rfl (lv_room (Nat.le_of_ble_eq_true rfl)) dX5_solves_221 ⟨Nat.le_of_ble_eq_true rfl, Nat.le_of_ble_eq_true rfl⟩) hwc hA rfl rfl (fun H locs hw => ?_)
                    have hw : wW G A9 s9.heap (wMd G a (m.1, m.2.1, m.2.2.1, (mdTies (mdTies ((upd ((mdSolveK m.2.1 m.2.2.2.1 k).1) k v), (mdSolveK m.2.1 m.2.2.2.1 k).2.1, (mdSolveK m.2.1 m.2.2.2.1 k).2.2) 0 16 (m.2.1.2.2.2.2.2.1 k) (m.2.1.2.1 (m.2.1.2.2.2.2.2.1 k))) 1 16 (m.2.1.2.2.2.2.2.1 k) (m.2.1.2.2.1 (m.2.1.2.2.2.2.2.1 k))), m.2.2.2.2.1, m.2.2.2.2.2.1, m.2.2.2.2.2.2)) H locs := hw
                    refine lv_iinc (v := nI (k + 1)) (lv' := [(1, .int (nI (k + 1))), (0, .ref (a 0)), (2, .int (nI (m.2.1.2.2.2.2.2.1 k))), (3, .int (mdHolds (mdSolveK m.2.1 m.2.2.2.1 k) 0 16 (m.2.1.2.2.2.2.2.1 k) (m.2.1.2.1 (m.2.1.2.2.2.2.2.1 k)))), (4, .int (mdHolds (mdSolveK m.2.1 m.2.2.2.1 k) 1 16 (m.2.1.2.2.2.2.2.1 k) (m.2.1.2.2.1 (m.2.1.2.2.2.2.2.1 k))))]) hx hb dX5_solves_224 hl (k := 1) rfl (nI_add k 1) (by decide) rfl (fun ls hl => ?_)
                    refine lv_goto (tgt := 30) hx hb dX5_solves_227 (by decide) ?_
                    exact ih_30 (k + 1) (by omega) (by first | assumption | omega | rfl) _ _ _ (wW.eq (show wMd G a (m.1, m.2.1, m.2.2.1, (mdTies (mdTies ((upd ((mdSolveK m.2.1 m.2.2.2.1 k).1) k v), (mdSolveK m.2.1 m.2.2.2.1 k).2.1, (mdSolveK m.2.1 m.2.2.2.1 k).2.2) 0 16 (m.2.1.2.2.2.2.2.1 k) (m.2.1.2.1 (m.2.1.2.2.2.2.2.1 k))) 1 16 (m.2.1.2.2.2.2.2.1 k) (m.2.1.2.2.1 (m.2.1.2.2.2.2.2.1 k))), m.2.2.2.2.1, m.2.2.2.2.2.1, m.2.2.2.2.2.2) = wMd G a (m.1, m.2.1, m.2.2.1, (mdSolveK m.2.1 m.2.2.2.1 (k + 1)), m.2.2.2.2.1, m.2.2.2.2.2.1, m.2.2.2.2.2.2) from (by subst hv; simp only [mdSolveK, mdStep, if_pos c_52, if_pos c_193]; first | done | rfl)) hw) (lv_sub hl [1, 0] rfl)
                refine lv_aload_n hx hb dX5_solves_150 rfl (lv_at hl 3 rfl) ?_
                refine r_get (ci := 5) (v := .ref (a 7)) (C := RX5) (T := TX5) (N := 29) hx hb hts wiX5_solves_solves_X5 hown hK hw 0 rfl rfl 9 (by decide) wmX5_solves_solves_5 (fun _ h9 => h9) rfl dX5_solves_151 ?_
                refine lv_iload_n hx hb dX5_solves_154 rfl (lv_at hl 4 rfl) ?_
                refine lv_iload_n hx hb dX5_solves_155 rfl (lv_at hl 1 rfl) ?_
                refine lv_iconst (v := 2) hx hb dX5_solves_156 (by decide) ?_
                refine lv_icmp_eq (tgt := 166) hx hb dX5_solves_157 (by decide) (fun c_157 => ?_) (fun c_157 => ?_)
                · refine lv_iconst (v := 2) hx hb dX5_solves_166 (by decide) ?_
                  refine lv_goto (tgt := 186) hx hb dX5_solves_167 (by decide) ?_
                  exact join_186 2 (by simp only [mdV2, mdSt2, if_pos c_157]) _ _ _ hw (lv_sub hl [3, 4, 2, 1, 0] rfl)
                · refine lv_iload hx hb dX5_solves_160 (lv_at hl 0 rfl) ?_
                  refine lv_iconst (v := 2) hx hb dX5_solves_162 (by decide) ?_
                  refine lv_icmp_ne (tgt := 170) hx hb dX5_solves_163 (by decide) (fun c_163 => ?_) (fun c_163 => ?_)
                  · refine lv_iload_n hx hb dX5_solves_170 rfl (lv_at hl 1 rfl) ?_
                    refine lv_iconst (v := 1) hx hb dX5_solves_171 (by decide) ?_
                    refine lv_icmp_ne (tgt := 185) hx hb dX5_solves_172 (by decide) (fun c_172 => ?_) (fun c_172 => ?_)
                    · refine lv_iconst (v := 0) hx hb dX5_solves_185 (by decide) ?_
                      exact join_186 0 (by simp only [mdV2, mdSt2, if_neg c_157, if_neg c_163, if_neg c_172]) _ _ _ hw (lv_sub hl [3, 4, 2, 1, 0] rfl)
                    · refine lv_iload hx hb dX5_solves_175 (lv_at hl 0 rfl) ?_
                      refine lv_iconst (v := 1) hx hb dX5_solves_177 (by decide) ?_
                      refine lv_icmp_ne (tgt := 185) hx hb dX5_solves_178 (by decide) (fun c_178 => ?_) (fun c_178 => ?_)
                      · refine lv_iconst (v := 0) hx hb dX5_solves_185 (by decide) ?_
                        exact join_186 0 (by simp only [mdV2, mdSt2, if_neg c_157, if_neg c_163, if_pos c_172, if_neg c_178]) _ _ _ hw (lv_sub hl [3, 4, 2, 1, 0] rfl)
                      · refine lv_iconst (v := 1) hx hb dX5_solves_181 (by decide) ?_
                        refine lv_goto (tgt := 186) hx hb dX5_solves_182 (by decide) ?_
                        exact join_186 1 (by simp only [mdV2, mdSt2, if_neg c_157, if_neg c_163, if_pos c_172, if_pos c_178]) _ _ _ hw (lv_sub hl [3, 4, 2, 1, 0] rfl)
                  · refine lv_iconst (v := 2) hx hb dX5_solves_166 (by decide) ?_
                    refine lv_goto (tgt := 186) hx hb dX5_solves_167 (by decide) ?_
                    exact join_186 2 (by simp only [mdV2, mdSt2, if_neg c_157, if_pos c_163]) _ _ _ hw (lv_sub hl [3, 4, 2, 1, 0] rfl)
              · have hk2 : m.2.1.2.2.2.2.1 k < 2 := ct_nge (k := m.2.1.2.2.2.2.1 k) (n := 2) (by omega) (by omega) c_52
                have hot2 := hot hk2
                refine lv_aload_n hx hb dX5_solves_55 rfl (lv_at hl 1 rfl) ?_
                refine r_get (ci := 5) (v := .ref (a 7)) (C := RX5) (T := TX5) (N := 29) hx hb hts wiX5_solves_solves_X5 hown hK hw 0 rfl rfl 9 (by decide) wmX5_solves_solves_5 (fun _ h9 => h9) rfl dX5_solves_56 ?_
                refine lv_iload_n hx hb dX5_solves_59 rfl (lv_at hl 2 rfl) ?_
                refine lv_aload_n hx hb dX5_solves_60 rfl (lv_at hl 1 rfl) ?_
                refine lv_aload_n hx hb dX5_solves_61 rfl (lv_at hl 1 rfl) ?_
                refine r_get (ci := 5) (v := .ref (a 3)) (C := RX5) (T := TX5) (N := 29) hx hb hts wiX5_solves_solves_X5 hown hK hw 0 rfl rfl 5 (by decide) wmX5_solves_solves_2 (fun _ h9 => h9) rfl dX5_solves_62 ?_
                refine lv_iload_n hx hb dX5_solves_65 rfl (lv_at hl 2 rfl) ?_
                refine r_iald (v := nI (m.2.1.2.2.2.2.1 k)) hx hb hK hw 3 rfl k rfl (by omega) (by decide) rfl dX5_solves_66 ?_
                refine lv_iload_n hx hb dX5_solves_67 rfl (lv_at hl 0 rfl) ?_
                refine lv_aload_n hx hb dX5_solves_68 rfl (lv_at hl 1 rfl) ?_
                refine r_get (ci := 5) (v := .ref (a 5)) (C := RX5) (T := TX5) (N := 29) hx hb hts wiX5_solves_solves_X5 hown hK hw 0 rfl rfl 7 (by decide) wmX5_solves_solves_6 (fun _ h9 => h9) rfl dX5_solves_69 ?_
                refine lv_iload_n hx hb dX5_solves_72 rfl (lv_at hl 2 rfl) ?_
                refine r_iald (v := nI (m.2.1.2.2.2.2.2.2.1 k)) hx hb hK hw 5 rfl k rfl (by omega) (by decide) rfl dX5_solves_73 ?_
                refine lv_aload_n hx hb dX5_solves_74 rfl (lv_at hl 1 rfl) ?_
                refine r_get (ci := 5) (v := .ref (a 6)) (C := RX5) (T := TX5) (N := 29) hx hb hts wiX5_solves_solves_X5 hown hK hw 0 rfl rfl 8 (by decide) wmX5_solves_solves_7 (fun _ h9 => h9) rfl dX5_solves_75 ?_
                refine lv_iload_n hx hb dX5_solves_78 rfl (lv_at hl 2 rfl) ?_
                refine r_iald (v := m.2.1.2.2.2.2.2.2.2 k) hx hb hK hw 6 rfl k rfl (by omega) (by decide) rfl dX5_solves_79 ?_
                have hwc : wW G A9 s9.heap (([] : va_W) ++ ((wMd G a (m.1, m.2.1, m.2.2.1, (mdSolveK m.2.1 m.2.2.2.1 k), m.2.2.2.2.1, m.2.2.2.2.2.1, m.2.2.2.2.2.2)) ++ ([] : va_W))) H locs := hw
                refine r_calli (res := (mdHolds (mdSolveK m.2.1 m.2.2.2.1 k) (m.2.1.2.2.2.2.1 k) (m.2.1.2.2.2.2.2.1 k) (m.2.1.2.2.2.2.2.2.1 k) (m.2.1.2.2.2.2.2.2.2 k))) (u := ([] : va_W)) (w := wMd G a (m.1, m.2.1, m.2.2.1, (mdSolveK m.2.1 m.2.2.2.1 k), m.2.2.2.2.1, m.2.2.2.2.2.1, m.2.2.2.2.2.2)) (v := ([] : va_W)) (va_runV (As := [.int (nI (m.2.1.2.2.2.2.1 k)), .int (nI (m.2.1.2.2.2.2.2.1 k)), .int (nI (m.2.1.2.2.2.2.2.2.1 k)), .int (m.2.1.2.2.2.2.2.2.2 k)]) (rest := [.int (nI k), .ref (a 7)]) ⟨hx, hb, hml, hown, hts⟩ (c_holds l G a (m.1, m.2.1, m.2.2.1, (mdSolveK m.2.1 m.2.2.2.1 k), m.2.2.2.2.1, m.2.2.2.2.2.1, m.2.2.2.2.2.2) (m.2.1.2.2.2.2.1 k) (m.2.1.2.2.2.2.2.1 k) (m.2.1.2.2.2.2.2.2.1 k) (m.2.1.2.2.2.2.2.2.2 k) (by first | assumption | omega | decide) (by first | assumption | omega | decide) (by first | assumption | omega | decide) H.size) (cwV 4 hts gX5_solves_X5_holds rfl rfl rfl (by decide +kernel) ⟨Nat.le_of_ble_eq_true rfl, Nat.le_of_ble_eq_true rfl⟩) (r_preV (ci := 5) (q0 := 0) hK hwc rfl rfl rfl) rfl rfl hl.1 rfl (lv_room (Nat.le_of_ble_eq_true rfl)) dX5_solves_80 ⟨Nat.le_of_ble_eq_true rfl, Nat.le_of_ble_eq_true rfl⟩) hwc hA rfl rfl (fun H locs hw => ?_)
                have hw : wW G A9 s9.heap (wMd G a (m.1, m.2.1, m.2.2.1, (mdSolveK m.2.1 m.2.2.2.1 k), m.2.2.2.2.1, m.2.2.2.2.2.1, m.2.2.2.2.2.2)) H locs := hw
                refine r_iast hx hb hK hw 7 rfl k rfl (by omega) (by decide) dX5_solves_83 (ws' := wMd G a (m.1, m.2.1, m.2.2.1, ((upd ((mdSolveK m.2.1 m.2.2.2.1 k).1) k (mdHolds (mdSolveK m.2.1 m.2.2.2.1 k) (m.2.1.2.2.2.2.1 k) (m.2.1.2.2.2.2.2.1 k) (m.2.1.2.2.2.2.2.2.1 k) (m.2.1.2.2.2.2.2.2.2 k))), (mdSolveK m.2.1 m.2.2.2.1 k).2.1, (mdSolveK m.2.1 m.2.2.2.1 k).2.2), m.2.2.2.2.1, m.2.2.2.2.2.1, m.2.2.2.2.2.2)) rfl (fun H locs hw => ?_)
                refine lv_aload_n hx hb dX5_solves_84 rfl (lv_at hl 1 rfl) ?_
                refine r_get (ci := 5) (v := .ref (a 7)) (C := RX5) (T := TX5) (N := 29) hx hb hts wiX5_solves_solves_X5 hown hK hw 0 rfl rfl 9 (by decide) wmX5_solves_solves_5 (fun _ h9 => h9) rfl dX5_solves_85 ?_
                refine lv_iload_n hx hb dX5_solves_88 rfl (lv_at hl 2 rfl) ?_
                refine r_iald (v := (upd ((mdSolveK m.2.1 m.2.2.2.1 k).1) k (mdHolds (mdSolveK m.2.1 m.2.2.2.1 k) (m.2.1.2.2.2.2.1 k) (m.2.1.2.2.2.2.2.1 k) (m.2.1.2.2.2.2.2.2.1 k) (m.2.1.2.2.2.2.2.2.2 k))) k) hx hb hK hw 7 rfl k rfl (by omega) (by decide) rfl dX5_solves_89 ?_
                refine r_top (y := mdV1 m.2.1 (mdSolveK m.2.1 m.2.2.2.1 k) k) pk_us ?_
                refine lv_if_ne (tgt := 224) hx hb dX5_solves_90 (by decide) (fun c_90 => ?_) (fun c_90 => ?_)
                · refine lv_iinc (v := nI (k + 1)) (lv' := [(1, .int (nI (k + 1))), (2, .int (nI (m.2.1.2.2.2.2.2.1 k))), (0, .ref (a 0))]) hx hb dX5_solves_224 hl (k := 2) rfl (nI_add k 1) (by decide) rfl (fun ls hl => ?_)
                  refine lv_goto (tgt := 30) hx hb dX5_solves_227 (by decide) ?_
                  exact ih_30 (k + 1) (by omega) (by first | assumption | omega | rfl) _ _ _ (wW.eq (show wMd G a (m.1, m.2.1, m.2.2.1, ((upd ((mdSolveK m.2.1 m.2.2.2.1 k).1) k (mdHolds (mdSolveK m.2.1 m.2.2.2.1 k) (m.2.1.2.2.2.2.1 k) (m.2.1.2.2.2.2.2.1 k) (m.2.1.2.2.2.2.2.2.1 k) (m.2.1.2.2.2.2.2.2.2 k))), (mdSolveK m.2.1 m.2.2.2.1 k).2.1, (mdSolveK m.2.1 m.2.2.2.1 k).2.2), m.2.2.2.2.1, m.2.2.2.2.2.1, m.2.2.2.2.2.2) = wMd G a (m.1, m.2.1, m.2.2.1, (mdSolveK m.2.1 m.2.2.2.1 (k + 1)), m.2.2.2.2.1, m.2.2.2.2.2.1, m.2.2.2.2.2.2) from (by simp only [mdSolveK, mdStep, if_neg c_52, if_neg c_90]; first | done | rfl)) hw) (lv_sub hl [2, 0] rfl)
                · refine lv_aload_n hx hb dX5_solves_93 rfl (lv_at hl 1 rfl) ?_
                  refine lv_aload_n hx hb dX5_solves_94 rfl (lv_at hl 1 rfl) ?_
                  refine r_get (ci := 5) (v := .ref (a 3)) (C := RX5) (T := TX5) (N := 29) hx hb hts wiX5_solves_solves_X5 hown hK hw 0 rfl rfl 5 (by decide) wmX5_solves_solves_2 (fun _ h9 => h9) rfl dX5_solves_95 ?_
                  refine lv_iload_n hx hb dX5_solves_98 rfl (lv_at hl 2 rfl) ?_
                  refine r_iald (v := nI (m.2.1.2.2.2.2.1 k)) hx hb hK hw 3 rfl k rfl (by omega) (by decide) rfl dX5_solves_99 ?_
                  refine lv_iload_n hx hb dX5_solves_100 rfl (lv_at hl 0 rfl) ?_
                  refine lv_aload_n hx hb dX5_solves_101 rfl (lv_at hl 1 rfl) ?_
                  refine r_get (ci := 5) (v := .ref (a 5)) (C := RX5) (T := TX5) (N := 29) hx hb hts wiX5_solves_solves_X5 hown hK hw 0 rfl rfl 7 (by decide) wmX5_solves_solves_6 (fun _ h9 => h9) rfl dX5_solves_102 ?_
                  refine lv_iload_n hx hb dX5_solves_105 rfl (lv_at hl 2 rfl) ?_
                  refine r_iald (v := nI (m.2.1.2.2.2.2.2.2.1 k)) hx hb hK hw 5 rfl k rfl (by omega) (by decide) rfl dX5_solves_106 ?_
                  refine lv_aload_n hx hb dX5_solves_107 rfl (lv_at hl 1 rfl) ?_
                  refine r_get (ci := 5) (v := .ref (a 6)) (C := RX5) (T := TX5) (N := 29) hx hb hts wiX5_solves_solves_X5 hown hK hw 0 rfl rfl 8 (by decide) wmX5_solves_solves_7 (fun _ h9 => h9) rfl dX5_solves_108 ?_
                  refine lv_iload_n hx hb dX5_solves_111 rfl (lv_at hl 2 rfl) ?_
                  refine r_iald (v := m.2.1.2.2.2.2.2.2.2 k) hx hb hK hw 6 rfl k rfl (by omega) (by decide) rfl dX5_solves_112 ?_
                  have hwc : wW G A9 s9.heap (([] : va_W) ++ ((wMd G a (m.1, m.2.1, m.2.2.1, ((upd ((mdSolveK m.2.1 m.2.2.2.1 k).1) k (mdHolds (mdSolveK m.2.1 m.2.2.2.1 k) (m.2.1.2.2.2.2.1 k) (m.2.1.2.2.2.2.2.1 k) (m.2.1.2.2.2.2.2.2.1 k) (m.2.1.2.2.2.2.2.2.2 k))), (mdSolveK m.2.1 m.2.2.2.1 k).2.1, (mdSolveK m.2.1 m.2.2.2.1 k).2.2), m.2.2.2.2.1, m.2.2.2.2.2.1, m.2.2.2.2.2.2)) ++ ([] : va_W))) H locs := hw
                  refine r_callv (u := ([] : va_W)) (w := wMd G a (m.1, m.2.1, m.2.2.1, ((upd ((mdSolveK m.2.1 m.2.2.2.1 k).1) k (mdHolds (mdSolveK m.2.1 m.2.2.2.1 k) (m.2.1.2.2.2.2.1 k) (m.2.1.2.2.2.2.2.1 k) (m.2.1.2.2.2.2.2.2.1 k) (m.2.1.2.2.2.2.2.2.2 k))), (mdSolveK m.2.1 m.2.2.2.1 k).2.1, (mdSolveK m.2.1 m.2.2.2.1 k).2.2), m.2.2.2.2.1, m.2.2.2.2.2.1, m.2.2.2.2.2.2)) (v := ([] : va_W)) (va_runV (As := [.int (nI (m.2.1.2.2.2.2.1 k)), .int (nI (m.2.1.2.2.2.2.2.1 k)), .int (nI (m.2.1.2.2.2.2.2.2.1 k)), .int (m.2.1.2.2.2.2.2.2.2 k)]) (rest := []) ⟨hx, hb, hml, hown, hts⟩ (c_ties l G a (m.1, m.2.1, m.2.2.1, ((upd ((mdSolveK m.2.1 m.2.2.2.1 k).1) k (mdHolds (mdSolveK m.2.1 m.2.2.2.1 k) (m.2.1.2.2.2.2.1 k) (m.2.1.2.2.2.2.2.1 k) (m.2.1.2.2.2.2.2.2.1 k) (m.2.1.2.2.2.2.2.2.2 k))), (mdSolveK m.2.1 m.2.2.2.1 k).2.1, (mdSolveK m.2.1 m.2.2.2.1 k).2.2), m.2.2.2.2.1, m.2.2.2.2.2.1, m.2.2.2.2.2.2) (m.2.1.2.2.2.2.1 k) (m.2.1.2.2.2.2.2.1 k) (m.2.1.2.2.2.2.2.2.1 k) (m.2.1.2.2.2.2.2.2.2 k) (by first | assumption | omega | decide) (by first | assumption | omega | decide) (by first | assumption | omega | decide) H.size) (cwV 4 hts gX5_solves_X5_ties rfl rfl rfl (by decide +kernel) ⟨Nat.le_of_ble_eq_true rfl, Nat.le_of_ble_eq_true rfl⟩) (r_preV (ci := 5) (q0 := 0) hK hwc rfl rfl rfl) rfl rfl hl.1 rfl (lv_room (Nat.le_of_ble_eq_true rfl)) dX5_solves_113 ⟨Nat.le_of_ble_eq_true rfl, Nat.le_of_ble_eq_true rfl⟩) hwc hA rfl rfl (fun H locs hw => ?_)
                  have hw : wW G A9 s9.heap (wMd G a (m.1, m.2.1, m.2.2.1, (mdTies ((upd ((mdSolveK m.2.1 m.2.2.2.1 k).1) k (mdHolds (mdSolveK m.2.1 m.2.2.2.1 k) (m.2.1.2.2.2.2.1 k) (m.2.1.2.2.2.2.2.1 k) (m.2.1.2.2.2.2.2.2.1 k) (m.2.1.2.2.2.2.2.2.2 k))), (mdSolveK m.2.1 m.2.2.2.1 k).2.1, (mdSolveK m.2.1 m.2.2.2.1 k).2.2) (m.2.1.2.2.2.2.1 k) (m.2.1.2.2.2.2.2.1 k) (m.2.1.2.2.2.2.2.2.1 k) (m.2.1.2.2.2.2.2.2.2 k)), m.2.2.2.2.1, m.2.2.2.2.2.1, m.2.2.2.2.2.2)) H locs := hw
                  refine lv_goto (tgt := 224) hx hb dX5_solves_116 (by decide) ?_
                  refine lv_iinc (v := nI (k + 1)) (lv' := [(1, .int (nI (k + 1))), (2, .int (nI (m.2.1.2.2.2.2.2.1 k))), (0, .ref (a 0))]) hx hb dX5_solves_224 hl (k := 2) rfl (nI_add k 1) (by decide) rfl (fun ls hl => ?_)
                  refine lv_goto (tgt := 30) hx hb dX5_solves_227 (by decide) ?_
                  exact ih_30 (k + 1) (by omega) (by first | assumption | omega | rfl) _ _ _ (wW.eq (show wMd G a (m.1, m.2.1, m.2.2.1, (mdTies ((upd ((mdSolveK m.2.1 m.2.2.2.1 k).1) k (mdHolds (mdSolveK m.2.1 m.2.2.2.1 k) (m.2.1.2.2.2.2.1 k) (m.2.1.2.2.2.2.2.1 k) (m.2.1.2.2.2.2.2.2.1 k) (m.2.1.2.2.2.2.2.2.2 k))), (mdSolveK m.2.1 m.2.2.2.1 k).2.1, (mdSolveK m.2.1 m.2.2.2.1 k).2.2) (m.2.1.2.2.2.2.1 k) (m.2.1.2.2.2.2.2.1 k) (m.2.1.2.2.2.2.2.2.1 k) (m.2.1.2.2.2.2.2.2.2 k)), m.2.2.2.2.1, m.2.2.2.2.2.1, m.2.2.2.2.2.2) = wMd G a (m.1, m.2.1, m.2.2.1, (mdSolveK m.2.1 m.2.2.2.1 (k + 1)), m.2.2.2.2.1, m.2.2.2.2.2.1, m.2.2.2.2.2.2) from (by simp only [mdSolveK, mdStep, if_neg c_52, if_pos c_90]; first | done | rfl)) hw) (lv_sub hl [2, 0] rfl)
        exact loop_30 ((m.2.1.2.2.2.1 - 0) + 1) 0 (Nat.lt_succ_self _) (by first | assumption | omega | rfl) _ _ _ (wW.eq (show wMd G a (m.1, m.2.1, m.2.2.1, (mdLooseK m.2.2.2.1 k), m.2.2.2.2.1, m.2.2.2.2.2.1, m.2.2.2.2.2.2) = wMd G a (m.1, m.2.1, m.2.2.1, (mdSolveK m.2.1 m.2.2.2.1 0), m.2.2.2.2.1, m.2.2.2.2.2.1, m.2.2.2.2.2.2) from (by rw [show k = 34 by omega]; rfl)) hw) (lv_sub hl [1, 0] rfl)
      · have hc_5 : k < 34 := ct_nge (k := k) (n := 34) (by omega) (by omega) c_5
        refine lv_aload_n hx hb dX5_solves_8 rfl (lv_at hl 0 rfl) ?_
        refine r_get (ci := 5) (v := .ref (a 10)) (C := RX5) (T := TX5) (N := 29) hx hb hts wiX5_solves_solves_X5 hown hK hw 0 rfl rfl 12 (by decide) wmX5_solves_solves_8 (fun _ h9 => h9) rfl dX5_solves_9 ?_
        refine lv_iload_n hx hb dX5_solves_12 rfl (lv_at hl 1 rfl) ?_
        refine lv_iload_n hx hb dX5_solves_13 rfl (lv_at hl 1 rfl) ?_
        refine r_iast hx hb hK hw 10 rfl k rfl (by omega) (by decide) dX5_solves_14 (ws' := wMd G a (m.1, m.2.1, m.2.2.1, ((mdLooseK m.2.2.2.1 k).1, (upd ((mdLooseK m.2.2.2.1 k).2.1) k (nI k)), (mdLooseK m.2.2.2.1 k).2.2), m.2.2.2.2.1, m.2.2.2.2.2.1, m.2.2.2.2.2.2)) rfl (fun H locs hw => ?_)
        refine lv_aload_n hx hb dX5_solves_15 rfl (lv_at hl 0 rfl) ?_
        refine r_get (ci := 5) (v := .ref (a 11)) (C := RX5) (T := TX5) (N := 29) hx hb hts wiX5_solves_solves_X5 hown hK hw 0 rfl rfl 13 (by decide) wmX5_solves_solves_9 (fun _ h9 => h9) rfl dX5_solves_16 ?_
        refine lv_iload_n hx hb dX5_solves_19 rfl (lv_at hl 1 rfl) ?_
        refine lv_iconst (v := 0) hx hb dX5_solves_20 (by decide) ?_
        refine r_iast hx hb hK hw 11 rfl k rfl (by omega) (by decide) dX5_solves_21 (ws' := wMd G a (m.1, m.2.1, m.2.2.1, ((mdLooseK m.2.2.2.1 k).1, (upd ((mdLooseK m.2.2.2.1 k).2.1) k (nI k)), (upd ((mdLooseK m.2.2.2.1 k).2.2) k 0)), m.2.2.2.2.1, m.2.2.2.2.2.1, m.2.2.2.2.2.2)) rfl (fun H locs hw => ?_)
        refine lv_iinc (v := nI (k + 1)) (lv' := [(1, .int (nI (k + 1))), (0, .ref (a 0))]) hx hb dX5_solves_22 hl (k := 1) rfl (nI_add k 1) (by decide) rfl (fun ls hl => ?_)
        refine lv_goto (tgt := 2) hx hb dX5_solves_25 (by decide) ?_
        exact ih_2 (k + 1) (by omega) (by first | assumption | omega | rfl) _ _ _ (wW.eq (show wMd G a (m.1, m.2.1, m.2.2.1, ((mdLooseK m.2.2.2.1 k).1, (upd ((mdLooseK m.2.2.2.1 k).2.1) k (nI k)), (upd ((mdLooseK m.2.2.2.1 k).2.2) k 0)), m.2.2.2.2.1, m.2.2.2.2.2.1, m.2.2.2.2.2.2) = wMd G a (m.1, m.2.1, m.2.2.1, (mdLooseK m.2.2.2.1 (k + 1)), m.2.2.2.2.1, m.2.2.2.2.2.1, m.2.2.2.2.2.2) from rfl) hw) (lv_sub hl [1, 0] rfl)
  exact loop_2 ((34 - 0) + 1) 0 (Nat.lt_succ_self _) (by first | assumption | omega | rfl) _ _ _ (wW.eq (show wMd G a m = wMd G a (m.1, m.2.1, m.2.2.1, (mdLooseK m.2.2.2.1 0), m.2.2.2.2.1, m.2.2.2.2.2.1, m.2.2.2.2.2.2) from rfl) hw) (lv_sub hl [1, 0] rfl)

theorem wiX5_placeOf_place0_X5 : ∀ w ∈ wsX50, w ∈ wsX5_placeOf := by decide +kernel
theorem wmX5_placeOf_place0_0 : Cond.fieldLink RX5 38 "PartSketchModel" "group" "[I" ∈ wsX5_placeOf := by decide +kernel
theorem wmX5_placeOf_place0_1 : Cond.fieldLink RX5 7 "PartSketchModel" "hintX" "[I" ∈ wsX5_placeOf := by decide +kernel
theorem wmX5_placeOf_place0_2 : Cond.fieldLink RX5 41 "PartSketchModel" "off" "[I" ∈ wsX5_placeOf := by decide +kernel
set_option maxHeartbeats 4000000 in
set_option maxRecDepth 100000 in
/-- placeOf, row 0 -/
theorem c_place0 (l : Launch) (G : gT) (a : aMd) (m : tMd) (q : Nat) (hq : q < 16) (sz : Nat) : MI l yX5_placeOf wsX5_placeOf ({ frames := 0, cells := 0, slots := 0, locals := 0 }) G [.ref (a 0), .int (nI 0), .int (nI q)] (wMd G a m) (wMd G a m) sz (mdPl m.2.1 m.2.2.2.1 0 q) 0 0 := by
  refine m_of (Qc := fun A9 => (va_Qi (fun (r9 : Int32) (_ : Unit) => r9 = (mdPl m.2.1 m.2.2.2.1 0 q)) (fun _ t9 => wPost G A9 (wMd G a m) t9) A9)) (cc := cX5_placeOf) (maxL := 7) (ret := (some .int)) (by decide) rfl (Nat.le_of_ble_eq_true rfl) ?_
  intro p9 e9 s9 m9 A9 be9 mt9 c9 H locs ls hx hb hr hts hown hlocks hin hml hK hA hw hl
  have hl : lv_has ls 7 [(0, .ref (a 0)), (1, .int (nI 0)), (2, .int (nI q))] := hl
  refine lv_bipush (v := 17) hx hb dX5_placeOf_0 (by decide) ?_
  refine lv_iload_n hx hb dX5_placeOf_2 rfl (lv_at hl 1 rfl) ?_
  refine lv_imul hx hb dX5_placeOf_3 ?_
  refine r_top (y := nI (17 * 0)) (pk_mul 17 0) ?_
  refine lv_iload_n hx hb dX5_placeOf_4 rfl (lv_at hl 2 rfl) ?_
  refine lv_iadd hx hb dX5_placeOf_5 ?_
  refine r_top (y := nI ((17 * 0) + q)) (nI_add (17 * 0) q) ?_
  refine lv_istore_n (lv' := [(3, .int (nI ((17 * 0) + q))), (0, .ref (a 0)), (1, .int (nI 0)), (2, .int (nI q))]) hx hb dX5_placeOf_6 rfl hl (by decide) rfl (fun ls hl => ?_)
  refine lv_bipush (v := 17) hx hb dX5_placeOf_7 (by decide) ?_
  refine lv_iload_n hx hb dX5_placeOf_9 rfl (lv_at hl 2 rfl) ?_
  refine lv_imul hx hb dX5_placeOf_10 ?_
  refine r_top (y := nI (17 * 0)) (pk_mul 17 0) ?_
  refine lv_bipush (v := 16) hx hb dX5_placeOf_11 (by decide) ?_
  refine lv_iadd hx hb dX5_placeOf_13 ?_
  refine r_top (y := nI ((17 * 0) + 16)) (nI_add (17 * 0) 16) ?_
  refine lv_istore (lv' := [(4, .int (nI ((17 * 0) + 16))), (3, .int (nI ((17 * 0) + q))), (0, .ref (a 0)), (1, .int (nI 0)), (2, .int (nI q))]) hx hb dX5_placeOf_14 hl (by decide) rfl (fun ls hl => ?_)
  refine lv_aload_n hx hb dX5_placeOf_16 rfl (lv_at hl 2 rfl) ?_
  refine r_get (ci := 5) (v := .ref (a 10)) (C := RX5) (T := TX5) (N := 29) hx hb hts wiX5_placeOf_place0_X5 hown hK hw 0 rfl rfl 12 (by decide) wmX5_placeOf_place0_0 (fun _ h9 => h9) rfl dX5_placeOf_17 ?_
  refine lv_iload_n hx hb dX5_placeOf_20 rfl (lv_at hl 1 rfl) ?_
  refine r_iald (v := m.2.2.2.1.2.1 ((17 * 0) + q)) hx hb hK hw 10 rfl ((17 * 0) + q) rfl (by omega) (by decide) rfl dX5_placeOf_21 ?_
  refine lv_aload_n hx hb dX5_placeOf_22 rfl (lv_at hl 2 rfl) ?_
  refine r_get (ci := 5) (v := .ref (a 10)) (C := RX5) (T := TX5) (N := 29) hx hb hts wiX5_placeOf_place0_X5 hown hK hw 0 rfl rfl 12 (by decide) wmX5_placeOf_place0_0 (fun _ h9 => h9) rfl dX5_placeOf_23 ?_
  refine lv_iload hx hb dX5_placeOf_26 (lv_at hl 0 rfl) ?_
  refine r_iald (v := m.2.2.2.1.2.1 ((17 * 0) + 16)) hx hb hK hw 10 rfl ((17 * 0) + 16) rfl (by omega) (by decide) rfl dX5_placeOf_28 ?_
  refine lv_icmp_ne (tgt := 47) hx hb dX5_placeOf_29 (by decide) (fun c_29 => ?_) (fun c_29 => ?_)
  · refine lv_bipush (v := 17) hx hb dX5_placeOf_47 (by decide) ?_
    refine lv_iload_n hx hb dX5_placeOf_49 rfl (lv_at hl 3 rfl) ?_
    refine lv_imul hx hb dX5_placeOf_50 ?_
    refine r_top (y := nI (17 * 0)) (pk_mul 17 0) ?_
    refine lv_istore (lv' := [(5, .int (nI (17 * 0))), (4, .int (nI ((17 * 0) + 16))), (3, .int (nI ((17 * 0) + q))), (0, .ref (a 0)), (1, .int (nI 0)), (2, .int (nI q))]) hx hb dX5_placeOf_51 hl (by decide) rfl (fun ls hl => ?_)
    have loop_53 : ∀ (nf : Nat) (n : Nat) (hnf : (17 * 0 + q - n) < nf) (hn1 : 17 * 0 ≤ n) (hn2 : n ≤ 17 * 0 + q) (hF : mdFirst m.2.2.2.1.2.1 (17 * 0 + q) (17 * 0 + q - n) n = mdFirst m.2.2.2.1.2.1 (17 * 0 + q) q (17 * 0)), ∀ (H : Heap) (locs : List Loc) (ls : Array Slot), wW G A9 s9.heap (wMd G a m) H locs → lv_has ls 7 [(0, .ref (a 0)), (1, .int (nI 0)), (2, .int (nI q)), (3, .int (nI ((17 * 0) + q))), (4, .int (nI ((17 * 0) + 16))), (5, .int (nI n))] → W p9 l e9 ({ frames := 0, cells := 0, slots := 0, locals := 0 }) s9 m9 [.ref (a 0), .int (nI 0), .int (nI q)].toArray be9 mt9 c9 H locs 0 0 (MQ be9 (va_Qi (fun (r9 : Int32) (_ : Unit) => r9 = (mdPl m.2.1 m.2.2.2.1 0 q)) (fun _ t9 => wPost G A9 (wMd G a m) t9) A9) [.ref (a 0), .int (nI 0), .int (nI q)].toArray s9 0 0 A9) (F0 m9 53 ls []) := by
      intro nf
      induction nf with
      | zero => intro n hnf hn1 hn2 hF; exact absurd hnf (Nat.not_lt_zero _)
      | succ nf ih_53 =>
        intro n hnf hn1 hn2 hF H locs ls hw hl
        refine lv_aload_n hx hb dX5_placeOf_53 rfl (lv_at hl 0 rfl) ?_
        refine r_get (ci := 5) (v := .ref (a 10)) (C := RX5) (T := TX5) (N := 29) hx hb hts wiX5_placeOf_place0_X5 hown hK hw 0 rfl rfl 12 (by decide) wmX5_placeOf_place0_0 (fun _ h9 => h9) rfl dX5_placeOf_54 ?_
        refine lv_iload hx hb dX5_placeOf_57 (lv_at hl 5 rfl) ?_
        refine r_iald (v := m.2.2.2.1.2.1 n) hx hb hK hw 10 rfl n rfl (by omega) (by decide) rfl dX5_placeOf_59 ?_
        refine lv_aload_n hx hb dX5_placeOf_60 rfl (lv_at hl 0 rfl) ?_
        refine r_get (ci := 5) (v := .ref (a 10)) (C := RX5) (T := TX5) (N := 29) hx hb hts wiX5_placeOf_place0_X5 hown hK hw 0 rfl rfl 12 (by decide) wmX5_placeOf_place0_0 (fun _ h9 => h9) rfl dX5_placeOf_61 ?_
        refine lv_iload_n hx hb dX5_placeOf_64 rfl (lv_at hl 3 rfl) ?_
        refine r_iald (v := m.2.2.2.1.2.1 ((17 * 0) + q)) hx hb hK hw 10 rfl ((17 * 0) + q) rfl (by omega) (by decide) rfl dX5_placeOf_65 ?_
        refine lv_icmp_eq (tgt := 75) hx hb dX5_placeOf_66 (by decide) (fun c_66 => ?_) (fun c_66 => ?_)
        · have hn : n = mdFirst m.2.2.2.1.2.1 (17 * 0 + q) q (17 * 0) := by rw [← hF, mdFirst_hit c_66]
          refine lv_iload_n hx hb dX5_placeOf_75 rfl (lv_at hl 1 rfl) ?_
          refine lv_if_ne (tgt := 89) hx hb dX5_placeOf_76 (by decide) (fun c_76 => ?_) (fun c_76 => ?_)
          · exact absurd rfl c_76
          · refine lv_aload_n hx hb dX5_placeOf_79 rfl (lv_at hl 0 rfl) ?_
            refine r_get (ci := 5) (v := .ref (a 1)) (C := RX5) (T := TX5) (N := 29) hx hb hts wiX5_placeOf_place0_X5 hown hK hw 0 rfl rfl 2 (by decide) wmX5_placeOf_place0_1 (fun _ h9 => h9) rfl dX5_placeOf_80 ?_
            refine lv_iload hx hb dX5_placeOf_83 (lv_at hl 5 rfl) ?_
            refine r_iald (v := m.2.1.2.1 n) hx hb hK hw 1 rfl n rfl (by omega) (by decide) rfl dX5_placeOf_85 ?_
            refine lv_goto (tgt := 99) hx hb dX5_placeOf_86 (by decide) ?_
            refine lv_istore (lv' := [(6, .int (m.2.1.2.1 n)), (0, .ref (a 0)), (1, .int (nI 0)), (2, .int (nI q)), (3, .int (nI ((17 * 0) + q))), (4, .int (nI ((17 * 0) + 16))), (5, .int (nI n))]) hx hb dX5_placeOf_99 hl (by decide) rfl (fun ls hl => ?_)
            refine lv_iload hx hb dX5_placeOf_101 (lv_at hl 0 rfl) ?_
            refine lv_aload_n hx hb dX5_placeOf_103 rfl (lv_at hl 1 rfl) ?_
            refine r_get (ci := 5) (v := .ref (a 11)) (C := RX5) (T := TX5) (N := 29) hx hb hts wiX5_placeOf_place0_X5 hown hK hw 0 rfl rfl 13 (by decide) wmX5_placeOf_place0_2 (fun _ h9 => h9) rfl dX5_placeOf_104 ?_
            refine lv_iload_n hx hb dX5_placeOf_107 rfl (lv_at hl 4 rfl) ?_
            refine r_iald (v := m.2.2.2.1.2.2 ((17 * 0) + q)) hx hb hK hw 11 rfl ((17 * 0) + q) rfl (by omega) (by decide) rfl dX5_placeOf_108 ?_
            refine lv_iadd hx hb dX5_placeOf_109 ?_
            refine lv_aload_n hx hb dX5_placeOf_110 rfl (lv_at hl 1 rfl) ?_
            refine r_get (ci := 5) (v := .ref (a 11)) (C := RX5) (T := TX5) (N := 29) hx hb hts wiX5_placeOf_place0_X5 hown hK hw 0 rfl rfl 13 (by decide) wmX5_placeOf_place0_2 (fun _ h9 => h9) rfl dX5_placeOf_111 ?_
            refine lv_iload hx hb dX5_placeOf_114 (lv_at hl 6 rfl) ?_
            refine r_iald (v := m.2.2.2.1.2.2 n) hx hb hK hw 11 rfl n rfl (by omega) (by decide) rfl dX5_placeOf_116 ?_
            refine lv_isub hx hb dX5_placeOf_117 ?_
            exact m_iret hx hb hr hlocks hK hw (Nat.le_of_ble_eq_true rfl) (Nat.le_of_ble_eq_true rfl) dX5_placeOf_118 (show (((m.2.1.2.1 n) + (m.2.2.2.1.2.2 ((17 * 0) + q))) - (m.2.2.2.1.2.2 n) : Int32) = mdPl m.2.1 m.2.2.2.1 0 q by unfold mdPl; rw [if_neg c_29, if_pos rfl, ← hn]) rfl
        · have hlt : n < 17 * 0 + q := by rcases Nat.lt_or_ge n (17 * 0 + q) with h | h; exact h; exact absurd (by rw [show n = 17 * 0 + q by omega]) c_66
          refine lv_iinc (v := nI (n + 1)) (lv' := [(5, .int (nI (n + 1))), (0, .ref (a 0)), (1, .int (nI 0)), (2, .int (nI q)), (3, .int (nI ((17 * 0) + q))), (4, .int (nI ((17 * 0) + 16)))]) hx hb dX5_placeOf_69 hl (k := 5) rfl (nI_add n 1) (by decide) rfl (fun ls hl => ?_)
          refine lv_goto (tgt := 53) hx hb dX5_placeOf_72 (by decide) ?_
          exact ih_53 (n + 1) (by omega) (by first | assumption | omega | rfl) (by omega) (by rw [← mdFirst_step c_66 hlt]; exact hF) _ _ _ hw (lv_sub hl [1, 2, 3, 4, 5, 0] rfl)
    exact loop_53 ((17 * 0 + q - (17 * 0)) + 1) (17 * 0) (Nat.lt_succ_self _) (by first | assumption | omega | rfl) (by first | assumption | omega | rfl) (by rw [show 17 * 0 + q - 17 * 0 = q by omega]) _ _ _ hw (lv_sub hl [3, 4, 5, 2, 1, 0] rfl)
  · refine lv_aload_n hx hb dX5_placeOf_32 rfl (lv_at hl 2 rfl) ?_
    refine r_get (ci := 5) (v := .ref (a 11)) (C := RX5) (T := TX5) (N := 29) hx hb hts wiX5_placeOf_place0_X5 hown hK hw 0 rfl rfl 13 (by decide) wmX5_placeOf_place0_2 (fun _ h9 => h9) rfl dX5_placeOf_33 ?_
    refine lv_iload_n hx hb dX5_placeOf_36 rfl (lv_at hl 1 rfl) ?_
    refine r_iald (v := m.2.2.2.1.2.2 ((17 * 0) + q)) hx hb hK hw 11 rfl ((17 * 0) + q) rfl (by omega) (by decide) rfl dX5_placeOf_37 ?_
    refine lv_aload_n hx hb dX5_placeOf_38 rfl (lv_at hl 2 rfl) ?_
    refine r_get (ci := 5) (v := .ref (a 11)) (C := RX5) (T := TX5) (N := 29) hx hb hts wiX5_placeOf_place0_X5 hown hK hw 0 rfl rfl 13 (by decide) wmX5_placeOf_place0_2 (fun _ h9 => h9) rfl dX5_placeOf_39 ?_
    refine lv_iload hx hb dX5_placeOf_42 (lv_at hl 0 rfl) ?_
    refine r_iald (v := m.2.2.2.1.2.2 ((17 * 0) + 16)) hx hb hK hw 11 rfl ((17 * 0) + 16) rfl (by omega) (by decide) rfl dX5_placeOf_44 ?_
    refine lv_isub hx hb dX5_placeOf_45 ?_
    exact m_iret hx hb hr hlocks hK hw (Nat.le_of_ble_eq_true rfl) (Nat.le_of_ble_eq_true rfl) dX5_placeOf_46 (show ((m.2.2.2.1.2.2 ((17 * 0) + q)) - (m.2.2.2.1.2.2 ((17 * 0) + 16)) : Int32) = mdPl m.2.1 m.2.2.2.1 0 q by unfold mdPl; rw [if_pos c_29]) rfl

theorem wiX5_placeOf_place1_X5 : ∀ w ∈ wsX50, w ∈ wsX5_placeOf := by decide +kernel
theorem wmX5_placeOf_place1_0 : Cond.fieldLink RX5 38 "PartSketchModel" "group" "[I" ∈ wsX5_placeOf := by decide +kernel
theorem wmX5_placeOf_place1_1 : Cond.fieldLink RX5 13 "PartSketchModel" "hintY" "[I" ∈ wsX5_placeOf := by decide +kernel
theorem wmX5_placeOf_place1_2 : Cond.fieldLink RX5 41 "PartSketchModel" "off" "[I" ∈ wsX5_placeOf := by decide +kernel
set_option maxHeartbeats 4000000 in
set_option maxRecDepth 100000 in
/-- placeOf, row 1 -/
theorem c_place1 (l : Launch) (G : gT) (a : aMd) (m : tMd) (q : Nat) (hq : q < 16) (sz : Nat) : MI l yX5_placeOf wsX5_placeOf ({ frames := 0, cells := 0, slots := 0, locals := 0 }) G [.ref (a 0), .int (nI 1), .int (nI q)] (wMd G a m) (wMd G a m) sz (mdPl m.2.1 m.2.2.2.1 1 q) 0 0 := by
  refine m_of (Qc := fun A9 => (va_Qi (fun (r9 : Int32) (_ : Unit) => r9 = (mdPl m.2.1 m.2.2.2.1 1 q)) (fun _ t9 => wPost G A9 (wMd G a m) t9) A9)) (cc := cX5_placeOf) (maxL := 7) (ret := (some .int)) (by decide) rfl (Nat.le_of_ble_eq_true rfl) ?_
  intro p9 e9 s9 m9 A9 be9 mt9 c9 H locs ls hx hb hr hts hown hlocks hin hml hK hA hw hl
  have hl : lv_has ls 7 [(0, .ref (a 0)), (1, .int (nI 1)), (2, .int (nI q))] := hl
  refine lv_bipush (v := 17) hx hb dX5_placeOf_0 (by decide) ?_
  refine lv_iload_n hx hb dX5_placeOf_2 rfl (lv_at hl 1 rfl) ?_
  refine lv_imul hx hb dX5_placeOf_3 ?_
  refine r_top (y := nI (17 * 1)) (pk_mul 17 1) ?_
  refine lv_iload_n hx hb dX5_placeOf_4 rfl (lv_at hl 2 rfl) ?_
  refine lv_iadd hx hb dX5_placeOf_5 ?_
  refine r_top (y := nI ((17 * 1) + q)) (nI_add (17 * 1) q) ?_
  refine lv_istore_n (lv' := [(3, .int (nI ((17 * 1) + q))), (0, .ref (a 0)), (1, .int (nI 1)), (2, .int (nI q))]) hx hb dX5_placeOf_6 rfl hl (by decide) rfl (fun ls hl => ?_)
  refine lv_bipush (v := 17) hx hb dX5_placeOf_7 (by decide) ?_
  refine lv_iload_n hx hb dX5_placeOf_9 rfl (lv_at hl 2 rfl) ?_
  refine lv_imul hx hb dX5_placeOf_10 ?_
  refine r_top (y := nI (17 * 1)) (pk_mul 17 1) ?_
  refine lv_bipush (v := 16) hx hb dX5_placeOf_11 (by decide) ?_
  refine lv_iadd hx hb dX5_placeOf_13 ?_
  refine r_top (y := nI ((17 * 1) + 16)) (nI_add (17 * 1) 16) ?_
  refine lv_istore (lv' := [(4, .int (nI ((17 * 1) + 16))), (3, .int (nI ((17 * 1) + q))), (0, .ref (a 0)), (1, .int (nI 1)), (2, .int (nI q))]) hx hb dX5_placeOf_14 hl (by decide) rfl (fun ls hl => ?_)
  refine lv_aload_n hx hb dX5_placeOf_16 rfl (lv_at hl 2 rfl) ?_
  refine r_get (ci := 5) (v := .ref (a 10)) (C := RX5) (T := TX5) (N := 29) hx hb hts wiX5_placeOf_place1_X5 hown hK hw 0 rfl rfl 12 (by decide) wmX5_placeOf_place1_0 (fun _ h9 => h9) rfl dX5_placeOf_17 ?_
  refine lv_iload_n hx hb dX5_placeOf_20 rfl (lv_at hl 1 rfl) ?_
  refine r_iald (v := m.2.2.2.1.2.1 ((17 * 1) + q)) hx hb hK hw 10 rfl ((17 * 1) + q) rfl (by omega) (by decide) rfl dX5_placeOf_21 ?_
  refine lv_aload_n hx hb dX5_placeOf_22 rfl (lv_at hl 2 rfl) ?_
  refine r_get (ci := 5) (v := .ref (a 10)) (C := RX5) (T := TX5) (N := 29) hx hb hts wiX5_placeOf_place1_X5 hown hK hw 0 rfl rfl 12 (by decide) wmX5_placeOf_place1_0 (fun _ h9 => h9) rfl dX5_placeOf_23 ?_
  refine lv_iload hx hb dX5_placeOf_26 (lv_at hl 0 rfl) ?_
  refine r_iald (v := m.2.2.2.1.2.1 ((17 * 1) + 16)) hx hb hK hw 10 rfl ((17 * 1) + 16) rfl (by omega) (by decide) rfl dX5_placeOf_28 ?_
  refine lv_icmp_ne (tgt := 47) hx hb dX5_placeOf_29 (by decide) (fun c_29 => ?_) (fun c_29 => ?_)
  · refine lv_bipush (v := 17) hx hb dX5_placeOf_47 (by decide) ?_
    refine lv_iload_n hx hb dX5_placeOf_49 rfl (lv_at hl 3 rfl) ?_
    refine lv_imul hx hb dX5_placeOf_50 ?_
    refine r_top (y := nI (17 * 1)) (pk_mul 17 1) ?_
    refine lv_istore (lv' := [(5, .int (nI (17 * 1))), (4, .int (nI ((17 * 1) + 16))), (3, .int (nI ((17 * 1) + q))), (0, .ref (a 0)), (1, .int (nI 1)), (2, .int (nI q))]) hx hb dX5_placeOf_51 hl (by decide) rfl (fun ls hl => ?_)
    have loop_53 : ∀ (nf : Nat) (n : Nat) (hnf : (17 * 1 + q - n) < nf) (hn1 : 17 * 1 ≤ n) (hn2 : n ≤ 17 * 1 + q) (hF : mdFirst m.2.2.2.1.2.1 (17 * 1 + q) (17 * 1 + q - n) n = mdFirst m.2.2.2.1.2.1 (17 * 1 + q) q (17 * 1)), ∀ (H : Heap) (locs : List Loc) (ls : Array Slot), wW G A9 s9.heap (wMd G a m) H locs → lv_has ls 7 [(0, .ref (a 0)), (1, .int (nI 1)), (2, .int (nI q)), (3, .int (nI ((17 * 1) + q))), (4, .int (nI ((17 * 1) + 16))), (5, .int (nI n))] → W p9 l e9 ({ frames := 0, cells := 0, slots := 0, locals := 0 }) s9 m9 [.ref (a 0), .int (nI 1), .int (nI q)].toArray be9 mt9 c9 H locs 0 0 (MQ be9 (va_Qi (fun (r9 : Int32) (_ : Unit) => r9 = (mdPl m.2.1 m.2.2.2.1 1 q)) (fun _ t9 => wPost G A9 (wMd G a m) t9) A9) [.ref (a 0), .int (nI 1), .int (nI q)].toArray s9 0 0 A9) (F0 m9 53 ls []) := by
      intro nf
      induction nf with
      | zero => intro n hnf hn1 hn2 hF; exact absurd hnf (Nat.not_lt_zero _)
      | succ nf ih_53 =>
        intro n hnf hn1 hn2 hF H locs ls hw hl
        refine lv_aload_n hx hb dX5_placeOf_53 rfl (lv_at hl 0 rfl) ?_
        refine r_get (ci := 5) (v := .ref (a 10)) (C := RX5) (T := TX5) (N := 29) hx hb hts wiX5_placeOf_place1_X5 hown hK hw 0 rfl rfl 12 (by decide) wmX5_placeOf_place1_0 (fun _ h9 => h9) rfl dX5_placeOf_54 ?_
        refine lv_iload hx hb dX5_placeOf_57 (lv_at hl 5 rfl) ?_
        refine r_iald (v := m.2.2.2.1.2.1 n) hx hb hK hw 10 rfl n rfl (by omega) (by decide) rfl dX5_placeOf_59 ?_
        refine lv_aload_n hx hb dX5_placeOf_60 rfl (lv_at hl 0 rfl) ?_
        refine r_get (ci := 5) (v := .ref (a 10)) (C := RX5) (T := TX5) (N := 29) hx hb hts wiX5_placeOf_place1_X5 hown hK hw 0 rfl rfl 12 (by decide) wmX5_placeOf_place1_0 (fun _ h9 => h9) rfl dX5_placeOf_61 ?_
        refine lv_iload_n hx hb dX5_placeOf_64 rfl (lv_at hl 3 rfl) ?_
        refine r_iald (v := m.2.2.2.1.2.1 ((17 * 1) + q)) hx hb hK hw 10 rfl ((17 * 1) + q) rfl (by omega) (by decide) rfl dX5_placeOf_65 ?_
        refine lv_icmp_eq (tgt := 75) hx hb dX5_placeOf_66 (by decide) (fun c_66 => ?_) (fun c_66 => ?_)
        · have hn : n = mdFirst m.2.2.2.1.2.1 (17 * 1 + q) q (17 * 1) := by rw [← hF, mdFirst_hit c_66]
          refine lv_iload_n hx hb dX5_placeOf_75 rfl (lv_at hl 1 rfl) ?_
          refine lv_if_ne (tgt := 89) hx hb dX5_placeOf_76 (by decide) (fun c_76 => ?_) (fun c_76 => ?_)
          · refine lv_aload_n hx hb dX5_placeOf_89 rfl (lv_at hl 0 rfl) ?_
            refine r_get (ci := 5) (v := .ref (a 2)) (C := RX5) (T := TX5) (N := 29) hx hb hts wiX5_placeOf_place1_X5 hown hK hw 0 rfl rfl 3 (by decide) wmX5_placeOf_place1_1 (fun _ h9 => h9) rfl dX5_placeOf_90 ?_
            refine lv_iload hx hb dX5_placeOf_93 (lv_at hl 5 rfl) ?_
            refine lv_bipush (v := 17) hx hb dX5_placeOf_95 (by decide) ?_
            refine lv_isub hx hb dX5_placeOf_97 ?_
            refine r_top (y := nI (n - 17)) (pk_sub (a := n) (b := 17) (by omega)) ?_
            refine r_iald (v := m.2.1.2.2.1 (n - 17)) hx hb hK hw 2 rfl (n - 17) rfl (by omega) (by decide) rfl dX5_placeOf_98 ?_
            refine lv_istore (lv' := [(6, .int (m.2.1.2.2.1 (n - 17))), (0, .ref (a 0)), (1, .int (nI 1)), (2, .int (nI q)), (3, .int (nI ((17 * 1) + q))), (4, .int (nI ((17 * 1) + 16))), (5, .int (nI n))]) hx hb dX5_placeOf_99 hl (by decide) rfl (fun ls hl => ?_)
            refine lv_iload hx hb dX5_placeOf_101 (lv_at hl 0 rfl) ?_
            refine lv_aload_n hx hb dX5_placeOf_103 rfl (lv_at hl 1 rfl) ?_
            refine r_get (ci := 5) (v := .ref (a 11)) (C := RX5) (T := TX5) (N := 29) hx hb hts wiX5_placeOf_place1_X5 hown hK hw 0 rfl rfl 13 (by decide) wmX5_placeOf_place1_2 (fun _ h9 => h9) rfl dX5_placeOf_104 ?_
            refine lv_iload_n hx hb dX5_placeOf_107 rfl (lv_at hl 4 rfl) ?_
            refine r_iald (v := m.2.2.2.1.2.2 ((17 * 1) + q)) hx hb hK hw 11 rfl ((17 * 1) + q) rfl (by omega) (by decide) rfl dX5_placeOf_108 ?_
            refine lv_iadd hx hb dX5_placeOf_109 ?_
            refine lv_aload_n hx hb dX5_placeOf_110 rfl (lv_at hl 1 rfl) ?_
            refine r_get (ci := 5) (v := .ref (a 11)) (C := RX5) (T := TX5) (N := 29) hx hb hts wiX5_placeOf_place1_X5 hown hK hw 0 rfl rfl 13 (by decide) wmX5_placeOf_place1_2 (fun _ h9 => h9) rfl dX5_placeOf_111 ?_
            refine lv_iload hx hb dX5_placeOf_114 (lv_at hl 6 rfl) ?_
            refine r_iald (v := m.2.2.2.1.2.2 n) hx hb hK hw 11 rfl n rfl (by omega) (by decide) rfl dX5_placeOf_116 ?_
            refine lv_isub hx hb dX5_placeOf_117 ?_
            exact m_iret hx hb hr hlocks hK hw (Nat.le_of_ble_eq_true rfl) (Nat.le_of_ble_eq_true rfl) dX5_placeOf_118 (show (((m.2.1.2.2.1 (n - 17)) + (m.2.2.2.1.2.2 ((17 * 1) + q))) - (m.2.2.2.1.2.2 n) : Int32) = mdPl m.2.1 m.2.2.2.1 1 q by unfold mdPl; rw [if_neg c_29, if_neg (by decide), ← hn]) rfl
          · exact absurd c_76 (by decide)
        · have hlt : n < 17 * 1 + q := by rcases Nat.lt_or_ge n (17 * 1 + q) with h | h; exact h; exact absurd (by rw [show n = 17 * 1 + q by omega]) c_66
          refine lv_iinc (v := nI (n + 1)) (lv' := [(5, .int (nI (n + 1))), (0, .ref (a 0)), (1, .int (nI 1)), (2, .int (nI q)), (3, .int (nI ((17 * 1) + q))), (4, .int (nI ((17 * 1) + 16)))]) hx hb dX5_placeOf_69 hl (k := 5) rfl (nI_add n 1) (by decide) rfl (fun ls hl => ?_)
          refine lv_goto (tgt := 53) hx hb dX5_placeOf_72 (by decide) ?_
          exact ih_53 (n + 1) (by omega) (by first | assumption | omega | rfl) (by omega) (by rw [← mdFirst_step c_66 hlt]; exact hF) _ _ _ hw (lv_sub hl [1, 2, 3, 4, 5, 0] rfl)
    exact loop_53 ((17 * 1 + q - (17 * 1)) + 1) (17 * 1) (Nat.lt_succ_self _) (by first | assumption | omega | rfl) (by first | assumption | omega | rfl) (by rw [show 17 * 1 + q - 17 * 1 = q by omega]) _ _ _ hw (lv_sub hl [3, 4, 5, 2, 1, 0] rfl)
  · refine lv_aload_n hx hb dX5_placeOf_32 rfl (lv_at hl 2 rfl) ?_
    refine r_get (ci := 5) (v := .ref (a 11)) (C := RX5) (T := TX5) (N := 29) hx hb hts wiX5_placeOf_place1_X5 hown hK hw 0 rfl rfl 13 (by decide) wmX5_placeOf_place1_2 (fun _ h9 => h9) rfl dX5_placeOf_33 ?_
    refine lv_iload_n hx hb dX5_placeOf_36 rfl (lv_at hl 1 rfl) ?_
    refine r_iald (v := m.2.2.2.1.2.2 ((17 * 1) + q)) hx hb hK hw 11 rfl ((17 * 1) + q) rfl (by omega) (by decide) rfl dX5_placeOf_37 ?_
    refine lv_aload_n hx hb dX5_placeOf_38 rfl (lv_at hl 2 rfl) ?_
    refine r_get (ci := 5) (v := .ref (a 11)) (C := RX5) (T := TX5) (N := 29) hx hb hts wiX5_placeOf_place1_X5 hown hK hw 0 rfl rfl 13 (by decide) wmX5_placeOf_place1_2 (fun _ h9 => h9) rfl dX5_placeOf_39 ?_
    refine lv_iload hx hb dX5_placeOf_42 (lv_at hl 0 rfl) ?_
    refine r_iald (v := m.2.2.2.1.2.2 ((17 * 1) + 16)) hx hb hK hw 11 rfl ((17 * 1) + 16) rfl (by omega) (by decide) rfl dX5_placeOf_44 ?_
    refine lv_isub hx hb dX5_placeOf_45 ?_
    exact m_iret hx hb hr hlocks hK hw (Nat.le_of_ble_eq_true rfl) (Nat.le_of_ble_eq_true rfl) dX5_placeOf_46 (show ((m.2.2.2.1.2.2 ((17 * 1) + q)) - (m.2.2.2.1.2.2 ((17 * 1) + 16)) : Int32) = mdPl m.2.1 m.2.2.2.1 1 q by unfold mdPl; rw [if_pos c_29]) rfl
