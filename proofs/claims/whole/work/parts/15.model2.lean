/-! the check: its calls about points, wishes and the table, written as its code does them -/
theorem mdIn_lt {p : Int32} {n : Nat} (hn : n ≤ 1000) (h : ¬ mdIn p 0 (nI n - 1) = 0) : iN p < n := by
  unfold mdIn at h
  by_cases h1 : p < 0
  · rw [if_pos h1] at h; exact absurd rfl h
  · rw [if_neg h1] at h
    by_cases h2 : nI n - 1 < p
    · rw [if_pos h2] at h; exact absurd rfl h
    · obtain ⟨j, hj, rfl⟩ := nI_of h1
      rw [iN_nI (by omega)]
      rcases n with _ | n
      · refine absurd ?_ h2
        have e : (nI 0 - 1 : Int32) = -1 := by decide
        rw [e, Int32.lt_iff_toInt_lt, nI_toInt hj]
        have : (-1 : Int32).toInt = -1 := by decide
        omega
      · rw [show nI (n + 1) - 1 = nI n from nI_pred n] at h2
        rcases Nat.lt_or_ge j (n + 1) with q | q
        · exact q
        · exact absurd (nI_lt (by omega) hj) h2
theorem mdIn_lt3 {v : Int32} (h : ¬ mdIn v 0 3 = 0) : iN v < 4 := mdIn_lt (n := 4) (by omega) h
def mdPoint (m : tMd) (x y : Int32) : Int32 × tMd := if mdIn x (-100) 100 = 0 then (0, (1, m.2.1, m.2.2.1, m.2.2.2.1, m.2.2.2.2.1, m.2.2.2.2.2.1, m.2.2.2.2.2.2)) else if mdIn y (-100) 100 = 0 then (0, (1, m.2.1, m.2.2.1, m.2.2.2.1, m.2.2.2.2.1, m.2.2.2.2.2.1, m.2.2.2.2.2.2)) else if nI m.2.1.1 = 16 then (0, (2, m.2.1, m.2.2.1, m.2.2.2.1, m.2.2.2.2.1, m.2.2.2.2.2.1, m.2.2.2.2.2.2)) else (nI m.2.1.1, (0, (m.2.1.1 + 1, upd m.2.1.2.1 m.2.1.1 x, upd m.2.1.2.2.1 m.2.1.1 y, m.2.1.2.2.2.1, m.2.1.2.2.2.2.1, m.2.1.2.2.2.2.2.1, m.2.1.2.2.2.2.2.2.1, m.2.1.2.2.2.2.2.2.2), m.2.2.1, m.2.2.2.1, m.2.2.2.2.1, m.2.2.2.2.2.1, m.2.2.2.2.2.2))
def mdHintT (m : tMd) (p x y : Int32) : Int32 := if mdIn p 0 (nI m.2.1.1 - 1) = 0 then 1 else if mdIn x (-100) 100 = 0 then 2 else if mdIn y (-100) 100 = 0 then 2 else 0
def mdHint (m : tMd) (p x y : Int32) : tMd := if mdHintT m p x y = 0 then (mdHintT m p x y, (m.2.1.1, upd m.2.1.2.1 (iN p) x, upd m.2.1.2.2.1 (iN p) y, m.2.1.2.2.2.1, m.2.1.2.2.2.2.1, m.2.1.2.2.2.2.2.1, m.2.1.2.2.2.2.2.2.1, m.2.1.2.2.2.2.2.2.2), m.2.2.1, m.2.2.2.1, m.2.2.2.2.1, m.2.2.2.2.2.1, m.2.2.2.2.2.2) else (mdHintT m p x y, m.2.1, m.2.2.1, m.2.2.2.1, m.2.2.2.2.1, m.2.2.2.2.2.1, m.2.2.2.2.2.2)
def mdTlK (tl : Nat → Int32) (n : Nat) : Nat → (Nat → Int32)
  | 0 => tl
  | k + 1 => upd (mdTlK tl n k) (40 * k + n) 0
def mdWish (m : tMd) (wh i j d : Int32) : Int32 × tMd := if mdIn wh 0 2 = 0 then (0, (1, m.2.1, m.2.2.1, m.2.2.2.1, m.2.2.2.2.1, m.2.2.2.2.2.1, m.2.2.2.2.2.2)) else if 2 ≤ wh then (if mdIn i 0 (nI m.2.1.1 - 1) = 0 then (0, (2, m.2.1, m.2.2.1, m.2.2.2.1, m.2.2.2.2.1, m.2.2.2.2.2.1, m.2.2.2.2.2.2)) else if nI m.2.1.2.2.2.1 = 40 then (0, (3, m.2.1, m.2.2.1, m.2.2.2.1, m.2.2.2.2.1, m.2.2.2.2.2.1, m.2.2.2.2.2.2)) else (nI m.2.1.2.2.2.1, (0, (m.2.1.1, m.2.1.2.1, m.2.1.2.2.1, m.2.1.2.2.2.1 + 1, updN m.2.1.2.2.2.2.1 m.2.1.2.2.2.1 (iN wh), updN m.2.1.2.2.2.2.2.1 m.2.1.2.2.2.1 (iN i), updN m.2.1.2.2.2.2.2.2.1 m.2.1.2.2.2.1 (iN j), upd m.2.1.2.2.2.2.2.2.2 m.2.1.2.2.2.1 d), (m.2.2.1.1, mdTlK m.2.2.1.2 m.2.1.2.2.2.1 4), m.2.2.2.1, m.2.2.2.2.1, m.2.2.2.2.2.1, m.2.2.2.2.2.2))) else if mdIn d (-100) 100 = 0 then (0, (1, m.2.1, m.2.2.1, m.2.2.2.1, m.2.2.2.2.1, m.2.2.2.2.2.1, m.2.2.2.2.2.2)) else if i = j then (0, (1, m.2.1, m.2.2.1, m.2.2.2.1, m.2.2.2.2.1, m.2.2.2.2.2.1, m.2.2.2.2.2.2)) else if mdIn i 0 (nI m.2.1.1 - 1) = 0 then (0, (2, m.2.1, m.2.2.1, m.2.2.2.1, m.2.2.2.2.1, m.2.2.2.2.2.1, m.2.2.2.2.2.2)) else if mdIn j 0 (nI m.2.1.1 - 1) = 0 then (0, (2, m.2.1, m.2.2.1, m.2.2.2.1, m.2.2.2.2.1, m.2.2.2.2.2.1, m.2.2.2.2.2.2)) else if nI m.2.1.2.2.2.1 = 40 then (0, (3, m.2.1, m.2.2.1, m.2.2.2.1, m.2.2.2.2.1, m.2.2.2.2.2.1, m.2.2.2.2.2.2)) else (nI m.2.1.2.2.2.1, (0, (m.2.1.1, m.2.1.2.1, m.2.1.2.2.1, m.2.1.2.2.2.1 + 1, updN m.2.1.2.2.2.2.1 m.2.1.2.2.2.1 (iN wh), updN m.2.1.2.2.2.2.2.1 m.2.1.2.2.2.1 (iN i), updN m.2.1.2.2.2.2.2.2.1 m.2.1.2.2.2.1 (iN j), upd m.2.1.2.2.2.2.2.2.2 m.2.1.2.2.2.1 d), (m.2.2.1.1, mdTlK m.2.2.1.2 m.2.1.2.2.2.1 4), m.2.2.2.1, m.2.2.2.2.1, m.2.2.2.2.2.1, m.2.2.2.2.2.2))
def mdRmT (t : tMT) (k : Nat) : Nat → tMT
  | 0 => t
  | v + 1 => (upd (mdRmT t k v).1 (k + 40 * v) ((mdRmT t k v).1 (k + 40 * v + 1)), upd (mdRmT t k v).2 (k + 40 * v) ((mdRmT t k v).2 (k + 40 * v + 1)))
def mdRmK (s : tMS) (t : tMT) (w : Nat) : Nat → tMS × tMT
  | 0 => (s, t)
  | j + 1 => (((mdRmK s t w j).1.1, (mdRmK s t w j).1.2.1, (mdRmK s t w j).1.2.2.1, (mdRmK s t w j).1.2.2.2.1, updN (mdRmK s t w j).1.2.2.2.2.1 (w + j) ((mdRmK s t w j).1.2.2.2.2.1 (w + j + 1)), updN (mdRmK s t w j).1.2.2.2.2.2.1 (w + j) ((mdRmK s t w j).1.2.2.2.2.2.1 (w + j + 1)), updN (mdRmK s t w j).1.2.2.2.2.2.2.1 (w + j) ((mdRmK s t w j).1.2.2.2.2.2.2.1 (w + j + 1)), upd (mdRmK s t w j).1.2.2.2.2.2.2.2 (w + j) ((mdRmK s t w j).1.2.2.2.2.2.2.2 (w + j + 1))), mdRmT (mdRmK s t w j).2 (w + j) 4)
theorem mdRmK_s (s : tMS) (t : tMT) (w : Nat) : ∀ j, (mdRmK s t w j).1.1 = s.1 ∧ (mdRmK s t w j).1.2.1 = s.2.1 ∧ (mdRmK s t w j).1.2.2.1 = s.2.2.1 ∧ (mdRmK s t w j).1.2.2.2.1 = s.2.2.2.1
  | 0 => ⟨rfl, rfl, rfl, rfl⟩
  | j + 1 => mdRmK_s s t w j
/-- the marks are 0 or 1 -/
def mdTl01 (t : tMT) : Prop := ∀ j, t.2 j = 0 ∨ t.2 j = 1
theorem upd01 {f : Nat → Int32} {k : Nat} {v : Int32} (h : ∀ j, f j = 0 ∨ f j = 1) (hv : v = 0 ∨ v = 1) : ∀ j, upd f k v j = 0 ∨ upd f k v j = 1 := fun j => by
  by_cases e : j = k
  · subst e; rw [pk_us]; exact hv
  · rw [pk_un e]; exact h j
theorem mdRmT01 {t : tMT} (h : mdTl01 t) (k : Nat) : ∀ v, mdTl01 (mdRmT t k v)
  | 0 => h
  | v + 1 => upd01 (mdRmT01 h k v) (mdRmT01 h k v _)
theorem mdRmK01 {s : tMS} {t : tMT} (h : mdTl01 t) (w : Nat) : ∀ j, mdTl01 (mdRmK s t w j).2
  | 0 => h
  | j + 1 => mdRmT01 (mdRmK01 h w j) _ 4
def mdRm (s : tMS) (t : tMT) (w : Nat) : tMS × tMT := (((mdRmK s t w (s.2.2.2.1 - 1 - w)).1.1, (mdRmK s t w (s.2.2.2.1 - 1 - w)).1.2.1, (mdRmK s t w (s.2.2.2.1 - 1 - w)).1.2.2.1, (mdRmK s t w (s.2.2.2.1 - 1 - w)).1.2.2.2.1 - 1, (mdRmK s t w (s.2.2.2.1 - 1 - w)).1.2.2.2.2), (mdRmK s t w (s.2.2.2.1 - 1 - w)).2)
def mdRemove (m : tMd) (w : Int32) : Int32 × tMd := if mdIn w 0 (nI m.2.1.2.2.2.1 - 1) = 0 then (0, (1, m.2.1, m.2.2.1, m.2.2.2.1, m.2.2.2.2.1, m.2.2.2.2.2.1, m.2.2.2.2.2.2)) else ((mdSolve m.2.1 m.2.2.2.1).1 (iN w), (0, (mdRm m.2.1 m.2.2.1 (iN w)).1, (mdRm m.2.1 m.2.2.1 (iN w)).2, mdSolve m.2.1 m.2.2.2.1, m.2.2.2.2))
def mdType (m : tMd) (w d : Int32) : Int32 × tMd := if mdIn w 0 (nI m.2.1.2.2.2.1 - 1) = 0 then (0, (1, m.2.1, m.2.2.1, m.2.2.2.1, m.2.2.2.2.1, m.2.2.2.2.2.1, m.2.2.2.2.2.2)) else if nI (m.2.1.2.2.2.2.1 (iN w)) = 2 then (0, (2, m.2.1, m.2.2.1, m.2.2.2.1, m.2.2.2.2.1, m.2.2.2.2.2.1, m.2.2.2.2.2.2)) else if mdIn d (-100) 100 = 0 then (0, (3, m.2.1, m.2.2.1, m.2.2.2.1, m.2.2.2.2.1, m.2.2.2.2.2.1, m.2.2.2.2.2.2)) else (m.2.1.2.2.2.2.2.2.2 (iN w), (0, (m.2.1.1, m.2.1.2.1, m.2.1.2.2.1, m.2.1.2.2.2.1, m.2.1.2.2.2.2.1, m.2.1.2.2.2.2.2.1, m.2.1.2.2.2.2.2.2.1, upd m.2.1.2.2.2.2.2.2.2 (iN w) d), m.2.2.1, m.2.2.2.1, m.2.2.2.2.1, m.2.2.2.2.2.1, m.2.2.2.2.2.2))
def mdState (m : tMd) (w : Int32) : Int32 × tMd := if mdIn w 0 (nI m.2.1.2.2.2.1 - 1) = 0 then (0, (1, m.2.1, m.2.2.1, m.2.2.2.1, m.2.2.2.2.1, m.2.2.2.2.2.1, m.2.2.2.2.2.2)) else ((mdSolve m.2.1 m.2.2.2.1).1 (iN w), (0, m.2.1, m.2.2.1, (mdSolve m.2.1 m.2.2.2.1), m.2.2.2.2.1, m.2.2.2.2.2.1, m.2.2.2.2.2.2))
def mdXy (r : Nat) (m : tMd) (p : Int32) : Int32 × tMd := if mdIn p 0 (nI m.2.1.1 - 1) = 0 then (0, (1, m.2.1, m.2.2.1, m.2.2.2.1, m.2.2.2.2.1, m.2.2.2.2.2.1, m.2.2.2.2.2.2)) else (mdPl m.2.1 (mdSolve m.2.1 m.2.2.2.1) r (iN p), (0, m.2.1, m.2.2.1, (mdSolve m.2.1 m.2.2.2.1), m.2.2.2.2.1, m.2.2.2.2.2.1, m.2.2.2.2.2.2))
def mdFr0 (g : Nat → Int32) (np k : Nat) : Int32 := if nI np ≤ nI (k % 17) then 0 else if g k = g (17 * (k / 17) + 16) then 0 else 1
def mdFrK (g : Nat → Int32) (np k : Nat) : Nat → Int32
  | 0 => mdFr0 g np k
  | j + 1 => if mdFrK g np k j = 0 then 0 else if g (17 * (k / 17) + j) = g k then 0 else 1
def mdFree (g : Nat → Int32) (np : Nat) : Nat → Int32
  | 0 => 0
  | k + 1 => mdFree g np k + (if mdFrK g np k (k % 17) = 0 then 0 else 1)
def mdCntK (tl : Nat → Int32) (v : Nat) : Nat → Int32
  | 0 => 0
  | k + 1 => mdCntK tl v k + (if tl (40 * v + k) = 0 then 0 else 1)
def mdTellS (m : tMd) (v w d : Int32) : tMd := (0, m.2.1, (upd m.2.2.1.1 (40 * iN v + iN w) d, upd m.2.2.1.2 (40 * iN v + iN w) 1), m.2.2.2.1, m.2.2.2.2.1, m.2.2.2.2.2.1, m.2.2.2.2.2.2)
def mdTell (m : tMd) (v w d : Int32) : Int32 × tMd := if mdIn v 0 3 = 0 then (0, (1, m.2.1, m.2.2.1, m.2.2.2.1, m.2.2.2.2.1, m.2.2.2.2.2.1, m.2.2.2.2.2.2)) else if mdIn d (-100) 100 = 0 then (0, (1, m.2.1, m.2.2.1, m.2.2.2.1, m.2.2.2.2.1, m.2.2.2.2.2.1, m.2.2.2.2.2.2)) else if mdIn w 0 (nI m.2.1.2.2.2.1 - 1) = 0 then (0, (2, m.2.1, m.2.2.1, m.2.2.2.1, m.2.2.2.2.1, m.2.2.2.2.2.1, m.2.2.2.2.2.2)) else if nI (m.2.1.2.2.2.2.1 (iN w)) = 2 then (0, (3, m.2.1, m.2.2.1, m.2.2.2.1, m.2.2.2.2.1, m.2.2.2.2.2.1, m.2.2.2.2.2.2)) else (mdCntK (upd m.2.2.1.2 (40 * iN v + iN w) 1) (iN v) m.2.1.2.2.2.1, mdTellS m v w d)
def mdTkK (t : tMT) (sz : Nat → Int32) (v : Nat) : Nat → Int32 × (Nat → Int32)
  | 0 => (0, sz)
  | k + 1 => ((mdTkK t sz v k).1 + (if t.2 (40 * v + k) = 0 then 0 else if (mdTkK t sz v k).2 k = t.1 (40 * v + k) then 0 else 1), upd (mdTkK t sz v k).2 k (if t.2 (40 * v + k) = 0 then (mdTkK t sz v k).2 k else t.1 (40 * v + k)))
def mdChoose (m : tMd) (v : Int32) : Int32 × tMd := if mdIn v 0 3 = 0 then (0, (1, m.2.1, m.2.2.1, m.2.2.2.1, m.2.2.2.2.1, m.2.2.2.2.2.1, m.2.2.2.2.2.2)) else ((mdTkK m.2.2.1 m.2.1.2.2.2.2.2.2.2 (iN v) m.2.1.2.2.2.1).1, (0, (m.2.1.1, m.2.1.2.1, m.2.1.2.2.1, m.2.1.2.2.2.1, m.2.1.2.2.2.2.1, m.2.1.2.2.2.2.2.1, m.2.1.2.2.2.2.2.2.1, (mdTkK m.2.2.1 m.2.1.2.2.2.2.2.2.2 (iN v) m.2.1.2.2.2.1).2), m.2.2.1, m.2.2.2.1, m.2.2.2.2.1, m.2.2.2.2.2.1, m.2.2.2.2.2.2))

theorem wiX5_point_m_point_X5 : ∀ w ∈ wsX50, w ∈ wsX5_point := by decide +kernel
theorem wmX5_point_m_point_0 : Cond.fieldLink RX5 74 "PartSketchModel" "thrown" "I" ∈ wsX5_point := by decide +kernel
theorem wmX5_point_m_point_1 : Cond.fieldLink RX5 82 "PartSketchModel" "points" "I" ∈ wsX5_point := by decide +kernel
theorem wmX5_point_m_point_2 : Cond.fieldLink RX5 7 "PartSketchModel" "hintX" "[I" ∈ wsX5_point := by decide +kernel
theorem wmX5_point_m_point_3 : Cond.fieldLink RX5 13 "PartSketchModel" "hintY" "[I" ∈ wsX5_point := by decide +kernel
set_option maxHeartbeats 4000000 in
set_option maxRecDepth 100000 in
/-- point -/
theorem c_m_point (l : Launch) (G : gT) (a : aMd) (m : tMd) (x : Int32) (y : Int32) (hnp : m.2.1.1 ≤ 16) (sz : Nat) : MI l yX5_point wsX5_point ({ frames := 2, cells := 0, slots := 0, locals := 42 }) G [.ref (a 0), .int x, .int y] (wMd G a m) (wMd G a ((mdPoint m x y).2)) sz ((mdPoint m x y).1) 0 0 := by
  refine m_of (Qc := fun A9 => (va_Qi (fun (r9 : Int32) (_ : Unit) => r9 = ((mdPoint m x y).1)) (fun _ t9 => wPost G A9 (wMd G a ((mdPoint m x y).2)) t9) A9)) (cc := cX5_point) (maxL := 3) (ret := (some .int)) (by decide) rfl (Nat.le_of_ble_eq_true rfl) ?_
  intro p9 e9 s9 m9 A9 be9 mt9 c9 H locs ls hx hb hr hts hown hlocks hin hml hK hA hw hl
  have hl : lv_has ls 3 [(0, .ref (a 0)), (1, .int x), (2, .int y)] := hl
  refine lv_aload_n hx hb dX5_point_0 rfl (lv_at hl 0 rfl) ?_
  refine lv_iconst (v := 0) hx hb dX5_point_1 (by decide) ?_
  refine r_put (ci := 5) (v := .int 0) (ty := .int) (C := RX5) (T := TX5) (N := 29) hx hb hts wiX5_point_m_point_X5 tyX5 tyX5_ok nmX5 hown hK hw 0 rfl rfl 0 (by decide) wmX5_point_m_point_0 (fun _ h9 => h9) rfl (by decide +kernel) rfl rfl (Nat.le_of_ble_eq_true rfl) dX5_point_2 (ws' := wMd G a (0, m.2.1, m.2.2.1, m.2.2.2.1, m.2.2.2.2.1, m.2.2.2.2.2.1, m.2.2.2.2.2.2)) rfl (fun H locs hw => ?_)
  refine lv_iload_n hx hb dX5_point_5 rfl (lv_at hl 1 rfl) ?_
  have hwc : wW G A9 s9.heap (([] : va_W) ++ (([] : va_W) ++ (wMd G a (0, m.2.1, m.2.2.1, m.2.2.2.1, m.2.2.2.2.1, m.2.2.2.2.2.1, m.2.2.2.2.2.2)))) H locs := hw
  refine r_calli (res := (mdIn x (-100) 100)) (u := ([] : va_W)) (w := ([] : va_W)) (v := wMd G a (0, m.2.1, m.2.2.1, m.2.2.2.1, m.2.2.2.2.1, m.2.2.2.2.2.1, m.2.2.2.2.2.2)) (va_runS (As := [.int x]) (rest := []) ⟨hx, hb, hml, hown, hts⟩ (c_near l G x H.size) (va_cwS 1 hts gX5_point_X5_isNear rfl rfl rfl (by decide +kernel) ⟨Nat.le_of_ble_eq_true rfl, Nat.le_of_ble_eq_true rfl⟩) (r_preS hK hwc) rfl rfl hl.1 rfl (lv_room (Nat.le_of_ble_eq_true rfl)) dX5_point_6 ⟨Nat.le_of_ble_eq_true rfl, Nat.le_of_ble_eq_true rfl⟩) hwc hA rfl rfl (fun H locs hw => ?_)
  have hw : wW G A9 s9.heap (wMd G a (0, m.2.1, m.2.2.1, m.2.2.2.1, m.2.2.2.2.1, m.2.2.2.2.2.1, m.2.2.2.2.2.2)) H locs := hw
  refine lv_if_eq (tgt := 19) hx hb dX5_point_9 (by decide) (fun c_9 => ?_) (fun c_9 => ?_)
  · refine lv_aload_n hx hb dX5_point_19 rfl (lv_at hl 0 rfl) ?_
    refine lv_iconst (v := 1) hx hb dX5_point_20 (by decide) ?_
    have hwc : wW G A9 s9.heap (([] : va_W) ++ ((wMd G a (0, m.2.1, m.2.2.1, m.2.2.2.1, m.2.2.2.2.1, m.2.2.2.2.2.1, m.2.2.2.2.2.2)) ++ ([] : va_W))) H locs := hw
    refine r_calli (res := 0) (u := ([] : va_W)) (w := wMd G a (0, m.2.1, m.2.2.1, m.2.2.2.1, m.2.2.2.2.1, m.2.2.2.2.2.1, m.2.2.2.2.2.2)) (v := ([] : va_W)) (va_runV (As := [.int 1]) (rest := []) ⟨hx, hb, hml, hown, hts⟩ (c_refuses l G a (0, m.2.1, m.2.2.1, m.2.2.2.1, m.2.2.2.2.1, m.2.2.2.2.2.1, m.2.2.2.2.2.2) 1 H.size) (cwV 1 hts gX5_point_X5_refuses rfl rfl rfl (by decide +kernel) ⟨Nat.le_of_ble_eq_true rfl, Nat.le_of_ble_eq_true rfl⟩) (r_preV (ci := 5) (q0 := 0) hK hwc rfl rfl rfl) rfl rfl hl.1 rfl (lv_room (Nat.le_of_ble_eq_true rfl)) dX5_point_21 ⟨Nat.le_of_ble_eq_true rfl, Nat.le_of_ble_eq_true rfl⟩) hwc hA rfl rfl (fun H locs hw => ?_)
    have hw : wW G A9 s9.heap (wMd G a (1, m.2.1, m.2.2.1, m.2.2.2.1, m.2.2.2.2.1, m.2.2.2.2.2.1, m.2.2.2.2.2.2)) H locs := hw
    exact m_iret hx hb hr hlocks hK hw (Nat.le_of_ble_eq_true rfl) (Nat.le_of_ble_eq_true rfl) dX5_point_24 (show (0 : Int32) = (mdPoint m x y).1 by first | rfl | (simp only [mdPoint, if_pos c_9]; first | done | rfl)) (show wMd G a (1, m.2.1, m.2.2.1, m.2.2.2.1, m.2.2.2.2.1, m.2.2.2.2.2.1, m.2.2.2.2.2.2) = wMd G a ((mdPoint m x y).2) by first | rfl | (simp only [mdPoint, if_pos c_9]; first | done | rfl))
  · refine lv_iload_n hx hb dX5_point_12 rfl (lv_at hl 2 rfl) ?_
    have hwc : wW G A9 s9.heap (([] : va_W) ++ (([] : va_W) ++ (wMd G a (0, m.2.1, m.2.2.1, m.2.2.2.1, m.2.2.2.2.1, m.2.2.2.2.2.1, m.2.2.2.2.2.2)))) H locs := hw
    refine r_calli (res := (mdIn y (-100) 100)) (u := ([] : va_W)) (w := ([] : va_W)) (v := wMd G a (0, m.2.1, m.2.2.1, m.2.2.2.1, m.2.2.2.2.1, m.2.2.2.2.2.1, m.2.2.2.2.2.2)) (va_runS (As := [.int y]) (rest := []) ⟨hx, hb, hml, hown, hts⟩ (c_near l G y H.size) (va_cwS 1 hts gX5_point_X5_isNear rfl rfl rfl (by decide +kernel) ⟨Nat.le_of_ble_eq_true rfl, Nat.le_of_ble_eq_true rfl⟩) (r_preS hK hwc) rfl rfl hl.1 rfl (lv_room (Nat.le_of_ble_eq_true rfl)) dX5_point_13 ⟨Nat.le_of_ble_eq_true rfl, Nat.le_of_ble_eq_true rfl⟩) hwc hA rfl rfl (fun H locs hw => ?_)
    have hw : wW G A9 s9.heap (wMd G a (0, m.2.1, m.2.2.1, m.2.2.2.1, m.2.2.2.2.1, m.2.2.2.2.2.1, m.2.2.2.2.2.2)) H locs := hw
    refine lv_if_ne (tgt := 25) hx hb dX5_point_16 (by decide) (fun c_16 => ?_) (fun c_16 => ?_)
    · refine lv_aload_n hx hb dX5_point_25 rfl (lv_at hl 0 rfl) ?_
      refine r_get (ci := 5) (v := .int (nI m.2.1.1)) (C := RX5) (T := TX5) (N := 29) hx hb hts wiX5_point_m_point_X5 hown hK hw 0 rfl rfl 1 (by decide) wmX5_point_m_point_1 (fun _ h9 => h9) rfl dX5_point_26 ?_
      refine lv_bipush (v := 16) hx hb dX5_point_29 (by decide) ?_
      refine lv_icmp_ne (tgt := 40) hx hb dX5_point_31 (by decide) (fun c_31 => ?_) (fun c_31 => ?_)
      · have hlt : m.2.1.1 < 16 := by have h : ¬ m.2.1.1 = 16 := fun h => c_31 (by rw [h]; rfl); omega
        refine lv_aload_n hx hb dX5_point_40 rfl (lv_at hl 0 rfl) ?_
        refine r_get (ci := 5) (v := .ref (a 1)) (C := RX5) (T := TX5) (N := 29) hx hb hts wiX5_point_m_point_X5 hown hK hw 0 rfl rfl 2 (by decide) wmX5_point_m_point_2 (fun _ h9 => h9) rfl dX5_point_41 ?_
        refine lv_aload_n hx hb dX5_point_44 rfl (lv_at hl 0 rfl) ?_
        refine r_get (ci := 5) (v := .int (nI m.2.1.1)) (C := RX5) (T := TX5) (N := 29) hx hb hts wiX5_point_m_point_X5 hown hK hw 0 rfl rfl 1 (by decide) wmX5_point_m_point_1 (fun _ h9 => h9) rfl dX5_point_45 ?_
        refine lv_iload_n hx hb dX5_point_48 rfl (lv_at hl 1 rfl) ?_
        refine r_iast hx hb hK hw 1 rfl m.2.1.1 rfl (by omega) (by decide) dX5_point_49 (ws' := wMd G a (0, (m.2.1.1, (upd m.2.1.2.1 m.2.1.1 x), m.2.1.2.2.1, m.2.1.2.2.2.1, m.2.1.2.2.2.2.1, m.2.1.2.2.2.2.2.1, m.2.1.2.2.2.2.2.2.1, m.2.1.2.2.2.2.2.2.2), m.2.2.1, m.2.2.2.1, m.2.2.2.2.1, m.2.2.2.2.2.1, m.2.2.2.2.2.2)) rfl (fun H locs hw => ?_)
        refine lv_aload_n hx hb dX5_point_50 rfl (lv_at hl 0 rfl) ?_
        refine r_get (ci := 5) (v := .ref (a 2)) (C := RX5) (T := TX5) (N := 29) hx hb hts wiX5_point_m_point_X5 hown hK hw 0 rfl rfl 3 (by decide) wmX5_point_m_point_3 (fun _ h9 => h9) rfl dX5_point_51 ?_
        refine lv_aload_n hx hb dX5_point_54 rfl (lv_at hl 0 rfl) ?_
        refine r_get (ci := 5) (v := .int (nI m.2.1.1)) (C := RX5) (T := TX5) (N := 29) hx hb hts wiX5_point_m_point_X5 hown hK hw 0 rfl rfl 1 (by decide) wmX5_point_m_point_1 (fun _ h9 => h9) rfl dX5_point_55 ?_
        refine lv_iload_n hx hb dX5_point_58 rfl (lv_at hl 2 rfl) ?_
        refine r_iast hx hb hK hw 2 rfl m.2.1.1 rfl (by omega) (by decide) dX5_point_59 (ws' := wMd G a (0, (m.2.1.1, (upd m.2.1.2.1 m.2.1.1 x), (upd m.2.1.2.2.1 m.2.1.1 y), m.2.1.2.2.2.1, m.2.1.2.2.2.2.1, m.2.1.2.2.2.2.2.1, m.2.1.2.2.2.2.2.2.1, m.2.1.2.2.2.2.2.2.2), m.2.2.1, m.2.2.2.1, m.2.2.2.2.1, m.2.2.2.2.2.1, m.2.2.2.2.2.2)) rfl (fun H locs hw => ?_)
        refine lv_aload_n hx hb dX5_point_60 rfl (lv_at hl 0 rfl) ?_
        refine lv_dup hx hb dX5_point_61 rfl ?_
        refine r_get (ci := 5) (v := .int (nI m.2.1.1)) (C := RX5) (T := TX5) (N := 29) hx hb hts wiX5_point_m_point_X5 hown hK hw 0 rfl rfl 1 (by decide) wmX5_point_m_point_1 (fun _ h9 => h9) rfl dX5_point_62 ?_
        refine lv_iconst (v := 1) hx hb dX5_point_65 (by decide) ?_
        refine lv_iadd hx hb dX5_point_66 ?_
        refine r_top (y := nI (m.2.1.1 + 1)) (nI_add m.2.1.1 1) ?_
        refine r_put (ci := 5) (v := .int (nI (m.2.1.1 + 1))) (ty := .int) (C := RX5) (T := TX5) (N := 29) hx hb hts wiX5_point_m_point_X5 tyX5 tyX5_ok nmX5 hown hK hw 0 rfl rfl 1 (by decide) wmX5_point_m_point_1 (fun _ h9 => h9) rfl (by decide +kernel) rfl rfl (Nat.le_of_ble_eq_true rfl) dX5_point_67 (ws' := wMd G a (0, (m.2.1.1 + 1, (upd m.2.1.2.1 m.2.1.1 x), (upd m.2.1.2.2.1 m.2.1.1 y), m.2.1.2.2.2.1, m.2.1.2.2.2.2.1, m.2.1.2.2.2.2.2.1, m.2.1.2.2.2.2.2.2.1, m.2.1.2.2.2.2.2.2.2), m.2.2.1, m.2.2.2.1, m.2.2.2.2.1, m.2.2.2.2.2.1, m.2.2.2.2.2.2)) rfl (fun H locs hw => ?_)
        refine lv_aload_n hx hb dX5_point_70 rfl (lv_at hl 0 rfl) ?_
        refine r_get (ci := 5) (v := .int (nI (m.2.1.1 + 1))) (C := RX5) (T := TX5) (N := 29) hx hb hts wiX5_point_m_point_X5 hown hK hw 0 rfl rfl 1 (by decide) wmX5_point_m_point_1 (fun _ h9 => h9) rfl dX5_point_71 ?_
        refine lv_iconst (v := 1) hx hb dX5_point_74 (by decide) ?_
        refine lv_isub hx hb dX5_point_75 ?_
        refine r_top (y := nI m.2.1.1) (nI_pred m.2.1.1) ?_
        exact m_iret hx hb hr hlocks hK hw (Nat.le_of_ble_eq_true rfl) (Nat.le_of_ble_eq_true rfl) dX5_point_76 (show (nI m.2.1.1 : Int32) = (mdPoint m x y).1 by first | rfl | (simp only [mdPoint, if_neg c_9, if_neg c_16, if_neg c_31]; first | done | rfl)) (show wMd G a (0, (m.2.1.1 + 1, (upd m.2.1.2.1 m.2.1.1 x), (upd m.2.1.2.2.1 m.2.1.1 y), m.2.1.2.2.2.1, m.2.1.2.2.2.2.1, m.2.1.2.2.2.2.2.1, m.2.1.2.2.2.2.2.2.1, m.2.1.2.2.2.2.2.2.2), m.2.2.1, m.2.2.2.1, m.2.2.2.2.1, m.2.2.2.2.2.1, m.2.2.2.2.2.2) = wMd G a ((mdPoint m x y).2) by first | rfl | (simp only [mdPoint, if_neg c_9, if_neg c_16, if_neg c_31]; first | done | rfl))
      · refine lv_aload_n hx hb dX5_point_34 rfl (lv_at hl 0 rfl) ?_
        refine lv_iconst (v := 2) hx hb dX5_point_35 (by decide) ?_
        have hwc : wW G A9 s9.heap (([] : va_W) ++ ((wMd G a (0, m.2.1, m.2.2.1, m.2.2.2.1, m.2.2.2.2.1, m.2.2.2.2.2.1, m.2.2.2.2.2.2)) ++ ([] : va_W))) H locs := hw
        refine r_calli (res := 0) (u := ([] : va_W)) (w := wMd G a (0, m.2.1, m.2.2.1, m.2.2.2.1, m.2.2.2.2.1, m.2.2.2.2.2.1, m.2.2.2.2.2.2)) (v := ([] : va_W)) (va_runV (As := [.int 2]) (rest := []) ⟨hx, hb, hml, hown, hts⟩ (c_refuses l G a (0, m.2.1, m.2.2.1, m.2.2.2.1, m.2.2.2.2.1, m.2.2.2.2.2.1, m.2.2.2.2.2.2) 2 H.size) (cwV 1 hts gX5_point_X5_refuses rfl rfl rfl (by decide +kernel) ⟨Nat.le_of_ble_eq_true rfl, Nat.le_of_ble_eq_true rfl⟩) (r_preV (ci := 5) (q0 := 0) hK hwc rfl rfl rfl) rfl rfl hl.1 rfl (lv_room (Nat.le_of_ble_eq_true rfl)) dX5_point_36 ⟨Nat.le_of_ble_eq_true rfl, Nat.le_of_ble_eq_true rfl⟩) hwc hA rfl rfl (fun H locs hw => ?_)
        have hw : wW G A9 s9.heap (wMd G a (2, m.2.1, m.2.2.1, m.2.2.2.1, m.2.2.2.2.1, m.2.2.2.2.2.1, m.2.2.2.2.2.2)) H locs := hw
        exact m_iret hx hb hr hlocks hK hw (Nat.le_of_ble_eq_true rfl) (Nat.le_of_ble_eq_true rfl) dX5_point_39 (show (0 : Int32) = (mdPoint m x y).1 by first | rfl | (simp only [mdPoint, if_neg c_9, if_neg c_16, if_pos c_31]; first | done | rfl)) (show wMd G a (2, m.2.1, m.2.2.1, m.2.2.2.1, m.2.2.2.2.1, m.2.2.2.2.2.1, m.2.2.2.2.2.2) = wMd G a ((mdPoint m x y).2) by first | rfl | (simp only [mdPoint, if_neg c_9, if_neg c_16, if_pos c_31]; first | done | rfl))
    · refine lv_aload_n hx hb dX5_point_19 rfl (lv_at hl 0 rfl) ?_
      refine lv_iconst (v := 1) hx hb dX5_point_20 (by decide) ?_
      have hwc : wW G A9 s9.heap (([] : va_W) ++ ((wMd G a (0, m.2.1, m.2.2.1, m.2.2.2.1, m.2.2.2.2.1, m.2.2.2.2.2.1, m.2.2.2.2.2.2)) ++ ([] : va_W))) H locs := hw
      refine r_calli (res := 0) (u := ([] : va_W)) (w := wMd G a (0, m.2.1, m.2.2.1, m.2.2.2.1, m.2.2.2.2.1, m.2.2.2.2.2.1, m.2.2.2.2.2.2)) (v := ([] : va_W)) (va_runV (As := [.int 1]) (rest := []) ⟨hx, hb, hml, hown, hts⟩ (c_refuses l G a (0, m.2.1, m.2.2.1, m.2.2.2.1, m.2.2.2.2.1, m.2.2.2.2.2.1, m.2.2.2.2.2.2) 1 H.size) (cwV 1 hts gX5_point_X5_refuses rfl rfl rfl (by decide +kernel) ⟨Nat.le_of_ble_eq_true rfl, Nat.le_of_ble_eq_true rfl⟩) (r_preV (ci := 5) (q0 := 0) hK hwc rfl rfl rfl) rfl rfl hl.1 rfl (lv_room (Nat.le_of_ble_eq_true rfl)) dX5_point_21 ⟨Nat.le_of_ble_eq_true rfl, Nat.le_of_ble_eq_true rfl⟩) hwc hA rfl rfl (fun H locs hw => ?_)
      have hw : wW G A9 s9.heap (wMd G a (1, m.2.1, m.2.2.1, m.2.2.2.1, m.2.2.2.2.1, m.2.2.2.2.2.1, m.2.2.2.2.2.2)) H locs := hw
      exact m_iret hx hb hr hlocks hK hw (Nat.le_of_ble_eq_true rfl) (Nat.le_of_ble_eq_true rfl) dX5_point_24 (show (0 : Int32) = (mdPoint m x y).1 by first | rfl | (simp only [mdPoint, if_neg c_9, if_pos c_16]; first | done | rfl)) (show wMd G a (1, m.2.1, m.2.2.1, m.2.2.2.1, m.2.2.2.2.1, m.2.2.2.2.2.1, m.2.2.2.2.2.2) = wMd G a ((mdPoint m x y).2) by first | rfl | (simp only [mdPoint, if_neg c_9, if_pos c_16]; first | done | rfl))

theorem wiX5_hint_m_hint_X5 : ∀ w ∈ wsX50, w ∈ wsX5_hint := by decide +kernel
theorem wmX5_hint_m_hint_0 : Cond.fieldLink RX5 74 "PartSketchModel" "thrown" "I" ∈ wsX5_hint := by decide +kernel
theorem wmX5_hint_m_hint_1 : Cond.fieldLink RX5 7 "PartSketchModel" "hintX" "[I" ∈ wsX5_hint := by decide +kernel
theorem wmX5_hint_m_hint_2 : Cond.fieldLink RX5 13 "PartSketchModel" "hintY" "[I" ∈ wsX5_hint := by decide +kernel
set_option maxHeartbeats 4000000 in
set_option maxRecDepth 100000 in
/-- hint -/
theorem c_m_hint (l : Launch) (G : gT) (a : aMd) (m : tMd) (p : Int32) (x : Int32) (y : Int32) (hnp : m.2.1.1 ≤ 16) (sz : Nat) : MV l yX5_hint wsX5_hint ({ frames := 2, cells := 0, slots := 0, locals := 43 }) G [.ref (a 0), .int p, .int x, .int y] (wMd G a m) (wMd G a (mdHint m p x y)) sz 0 0 := by
  refine m_of (Qc := fun A9 => (va_Qv (fun (_ : Unit) => True) (fun _ t9 => wPost G A9 (wMd G a (mdHint m p x y)) t9) A9)) (cc := cX5_hint) (maxL := 4) (ret := none) (by decide) rfl (Nat.le_of_ble_eq_true rfl) ?_
  intro p9 e9 s9 m9 A9 be9 mt9 c9 H locs ls hx hb hr hts hown hlocks hin hml hK hA hw hl
  have hl : lv_has ls 4 [(0, .ref (a 0)), (1, .int p), (2, .int x), (3, .int y)] := hl
  have join_32 : ∀ (v : Int32) (hv : v = mdHintT m p x y) (H : Heap) (locs : List Loc) (ls : Array Slot), wW G A9 s9.heap (wMd G a m) H locs → lv_has ls 4 [(0, .ref (a 0)), (1, .int p), (2, .int x), (3, .int y)] → W p9 l e9 ({ frames := 2, cells := 0, slots := 0, locals := 43 }) s9 m9 [.ref (a 0), .int p, .int x, .int y].toArray be9 mt9 c9 H locs 0 0 (MQ be9 (va_Qv (fun (_ : Unit) => True) (fun _ t9 => wPost G A9 (wMd G a (mdHint m p x y)) t9) A9) [.ref (a 0), .int p, .int x, .int y].toArray s9 0 0 A9) (F0 m9 32 ls [.int v, .ref (a 0)]) := by
    intro v hv H locs ls hw hl
    refine r_put (ci := 5) (v := .int v) (ty := .int) (C := RX5) (T := TX5) (N := 29) hx hb hts wiX5_hint_m_hint_X5 tyX5 tyX5_ok nmX5 hown hK hw 0 rfl rfl 0 (by decide) wmX5_hint_m_hint_0 (fun _ h9 => h9) rfl (by decide +kernel) rfl rfl (Nat.le_of_ble_eq_true rfl) dX5_hint_32 (ws' := wMd G a (v, m.2.1, m.2.2.1, m.2.2.2.1, m.2.2.2.2.1, m.2.2.2.2.2.1, m.2.2.2.2.2.2)) rfl (fun H locs hw => ?_)
    refine lv_aload_n hx hb dX5_hint_35 rfl (lv_at hl 0 rfl) ?_
    refine r_get (ci := 5) (v := .int v) (C := RX5) (T := TX5) (N := 29) hx hb hts wiX5_hint_m_hint_X5 hown hK hw 0 rfl rfl 0 (by decide) wmX5_hint_m_hint_0 (fun _ h9 => h9) rfl dX5_hint_36 ?_
    refine lv_if_ne (tgt := 56) hx hb dX5_hint_39 (by decide) (fun c_39 => ?_) (fun c_39 => ?_)
    · exact m_vret hx hb hr hlocks hK hw (Nat.le_of_ble_eq_true rfl) (Nat.le_of_ble_eq_true rfl) dX5_hint_56 (show wMd G a (v, m.2.1, m.2.2.1, m.2.2.2.1, m.2.2.2.2.1, m.2.2.2.2.2.1, m.2.2.2.2.2.2) = wMd G a (mdHint m p x y) by subst hv; simp only [mdHint, if_neg c_39])
    · have hlt : iN p < m.2.1.1 := mdIn_lt (by omega) (fun h => by rw [hv] at c_39; unfold mdHintT at c_39; rw [if_pos h] at c_39; exact absurd c_39 (by decide))
      refine lv_aload_n hx hb dX5_hint_42 rfl (lv_at hl 0 rfl) ?_
      refine r_get (ci := 5) (v := .ref (a 1)) (C := RX5) (T := TX5) (N := 29) hx hb hts wiX5_hint_m_hint_X5 hown hK hw 0 rfl rfl 2 (by decide) wmX5_hint_m_hint_1 (fun _ h9 => h9) rfl dX5_hint_43 ?_
      refine lv_iload_n hx hb dX5_hint_46 rfl (lv_at hl 1 rfl) ?_
      refine lv_iload_n hx hb dX5_hint_47 rfl (lv_at hl 2 rfl) ?_
      refine r_iast hx hb hK hw 1 rfl (iN p) (nI_iN p) (by omega) (by decide) dX5_hint_48 (ws' := wMd G a (v, (m.2.1.1, (upd m.2.1.2.1 (iN p) x), m.2.1.2.2.1, m.2.1.2.2.2.1, m.2.1.2.2.2.2.1, m.2.1.2.2.2.2.2.1, m.2.1.2.2.2.2.2.2.1, m.2.1.2.2.2.2.2.2.2), m.2.2.1, m.2.2.2.1, m.2.2.2.2.1, m.2.2.2.2.2.1, m.2.2.2.2.2.2)) rfl (fun H locs hw => ?_)
      refine lv_aload_n hx hb dX5_hint_49 rfl (lv_at hl 0 rfl) ?_
      refine r_get (ci := 5) (v := .ref (a 2)) (C := RX5) (T := TX5) (N := 29) hx hb hts wiX5_hint_m_hint_X5 hown hK hw 0 rfl rfl 3 (by decide) wmX5_hint_m_hint_2 (fun _ h9 => h9) rfl dX5_hint_50 ?_
      refine lv_iload_n hx hb dX5_hint_53 rfl (lv_at hl 1 rfl) ?_
      refine lv_iload_n hx hb dX5_hint_54 rfl (lv_at hl 3 rfl) ?_
      refine r_iast hx hb hK hw 2 rfl (iN p) (nI_iN p) (by omega) (by decide) dX5_hint_55 (ws' := wMd G a (v, (m.2.1.1, (upd m.2.1.2.1 (iN p) x), (upd m.2.1.2.2.1 (iN p) y), m.2.1.2.2.2.1, m.2.1.2.2.2.2.1, m.2.1.2.2.2.2.2.1, m.2.1.2.2.2.2.2.2.1, m.2.1.2.2.2.2.2.2.2), m.2.2.1, m.2.2.2.1, m.2.2.2.2.1, m.2.2.2.2.2.1, m.2.2.2.2.2.2)) rfl (fun H locs hw => ?_)
      exact m_vret hx hb hr hlocks hK hw (Nat.le_of_ble_eq_true rfl) (Nat.le_of_ble_eq_true rfl) dX5_hint_56 (show wMd G a (v, (m.2.1.1, (upd m.2.1.2.1 (iN p) x), (upd m.2.1.2.2.1 (iN p) y), m.2.1.2.2.2.1, m.2.1.2.2.2.2.1, m.2.1.2.2.2.2.2.1, m.2.1.2.2.2.2.2.2.1, m.2.1.2.2.2.2.2.2.2), m.2.2.1, m.2.2.2.1, m.2.2.2.2.1, m.2.2.2.2.2.1, m.2.2.2.2.2.2) = wMd G a (mdHint m p x y) by subst hv; simp only [mdHint, if_pos c_39])
  refine lv_aload_n hx hb dX5_hint_0 rfl (lv_at hl 0 rfl) ?_
  refine lv_aload_n hx hb dX5_hint_1 rfl (lv_at hl 0 rfl) ?_
  refine lv_iload_n hx hb dX5_hint_2 rfl (lv_at hl 1 rfl) ?_
  have hwc : wW G A9 s9.heap (([] : va_W) ++ ((wMd G a m) ++ ([] : va_W))) H locs := hw
  refine r_calli (res := (mdIn p 0 (nI m.2.1.1 - 1))) (u := ([] : va_W)) (w := wMd G a m) (v := ([] : va_W)) (va_runV (As := [.int p]) (rest := [.ref (a 0)]) ⟨hx, hb, hml, hown, hts⟩ (c_ispoint l G a m p H.size) (cwV 1 hts gX5_hint_X5_isPoint rfl rfl rfl (by decide +kernel) ⟨Nat.le_of_ble_eq_true rfl, Nat.le_of_ble_eq_true rfl⟩) (r_preV (ci := 5) (q0 := 0) hK hwc rfl rfl rfl) rfl rfl hl.1 rfl (lv_room (Nat.le_of_ble_eq_true rfl)) dX5_hint_3 ⟨Nat.le_of_ble_eq_true rfl, Nat.le_of_ble_eq_true rfl⟩) hwc hA rfl rfl (fun H locs hw => ?_)
  have hw : wW G A9 s9.heap (wMd G a m) H locs := hw
  refine lv_if_ne (tgt := 13) hx hb dX5_hint_6 (by decide) (fun c_6 => ?_) (fun c_6 => ?_)
  · refine lv_iload_n hx hb dX5_hint_13 rfl (lv_at hl 2 rfl) ?_
    have hwc : wW G A9 s9.heap (([] : va_W) ++ (([] : va_W) ++ (wMd G a m))) H locs := hw
    refine r_calli (res := (mdIn x (-100) 100)) (u := ([] : va_W)) (w := ([] : va_W)) (v := wMd G a m) (va_runS (As := [.int x]) (rest := [.ref (a 0)]) ⟨hx, hb, hml, hown, hts⟩ (c_near l G x H.size) (va_cwS 1 hts gX5_hint_X5_isNear rfl rfl rfl (by decide +kernel) ⟨Nat.le_of_ble_eq_true rfl, Nat.le_of_ble_eq_true rfl⟩) (r_preS hK hwc) rfl rfl hl.1 rfl (lv_room (Nat.le_of_ble_eq_true rfl)) dX5_hint_14 ⟨Nat.le_of_ble_eq_true rfl, Nat.le_of_ble_eq_true rfl⟩) hwc hA rfl rfl (fun H locs hw => ?_)
    have hw : wW G A9 s9.heap (wMd G a m) H locs := hw
    refine lv_if_eq (tgt := 31) hx hb dX5_hint_17 (by decide) (fun c_17 => ?_) (fun c_17 => ?_)
    · refine lv_iconst (v := 2) hx hb dX5_hint_31 (by decide) ?_
      exact join_32 2 (by first | rfl | (simp only [mdHintT, if_neg c_6, if_pos c_17]; first | done | rfl)) _ _ _ hw (lv_sub hl [0, 1, 2, 3] rfl)
    · refine lv_iload_n hx hb dX5_hint_20 rfl (lv_at hl 3 rfl) ?_
      have hwc : wW G A9 s9.heap (([] : va_W) ++ (([] : va_W) ++ (wMd G a m))) H locs := hw
      refine r_calli (res := (mdIn y (-100) 100)) (u := ([] : va_W)) (w := ([] : va_W)) (v := wMd G a m) (va_runS (As := [.int y]) (rest := [.ref (a 0)]) ⟨hx, hb, hml, hown, hts⟩ (c_near l G y H.size) (va_cwS 1 hts gX5_hint_X5_isNear rfl rfl rfl (by decide +kernel) ⟨Nat.le_of_ble_eq_true rfl, Nat.le_of_ble_eq_true rfl⟩) (r_preS hK hwc) rfl rfl hl.1 rfl (lv_room (Nat.le_of_ble_eq_true rfl)) dX5_hint_21 ⟨Nat.le_of_ble_eq_true rfl, Nat.le_of_ble_eq_true rfl⟩) hwc hA rfl rfl (fun H locs hw => ?_)
      have hw : wW G A9 s9.heap (wMd G a m) H locs := hw
      refine lv_if_eq (tgt := 31) hx hb dX5_hint_24 (by decide) (fun c_24 => ?_) (fun c_24 => ?_)
      · refine lv_iconst (v := 2) hx hb dX5_hint_31 (by decide) ?_
        exact join_32 2 (by first | rfl | (simp only [mdHintT, if_neg c_6, if_neg c_17, if_pos c_24]; first | done | rfl)) _ _ _ hw (lv_sub hl [0, 1, 2, 3] rfl)
      · refine lv_iconst (v := 0) hx hb dX5_hint_27 (by decide) ?_
        refine lv_goto (tgt := 32) hx hb dX5_hint_28 (by decide) ?_
        exact join_32 0 (by first | rfl | (simp only [mdHintT, if_neg c_6, if_neg c_17, if_neg c_24]; first | done | rfl)) _ _ _ hw (lv_sub hl [0, 1, 2, 3] rfl)
  · refine lv_iconst (v := 1) hx hb dX5_hint_9 (by decide) ?_
    refine lv_goto (tgt := 32) hx hb dX5_hint_10 (by decide) ?_
    exact join_32 1 (by first | rfl | (simp only [mdHintT, if_pos c_6]; first | done | rfl)) _ _ _ hw (lv_sub hl [0, 1, 2, 3] rfl)

theorem wiX5_wish_m_wish_X5 : ∀ w ∈ wsX50, w ∈ wsX5_wish := by decide +kernel
theorem wmX5_wish_m_wish_0 : Cond.fieldLink RX5 74 "PartSketchModel" "thrown" "I" ∈ wsX5_wish := by decide +kernel
theorem wmX5_wish_m_wish_1 : Cond.fieldLink RX5 85 "PartSketchModel" "wishes" "I" ∈ wsX5_wish := by decide +kernel
theorem wmX5_wish_m_wish_2 : Cond.fieldLink RX5 16 "PartSketchModel" "kind" "[I" ∈ wsX5_wish := by decide +kernel
theorem wmX5_wish_m_wish_3 : Cond.fieldLink RX5 19 "PartSketchModel" "one" "[I" ∈ wsX5_wish := by decide +kernel
theorem wmX5_wish_m_wish_4 : Cond.fieldLink RX5 22 "PartSketchModel" "other" "[I" ∈ wsX5_wish := by decide +kernel
theorem wmX5_wish_m_wish_5 : Cond.fieldLink RX5 25 "PartSketchModel" "size" "[I" ∈ wsX5_wish := by decide +kernel
theorem wmX5_wish_m_wish_6 : Cond.fieldLink RX5 34 "PartSketchModel" "tells" "[Z" ∈ wsX5_wish := by decide +kernel
set_option maxHeartbeats 4000000 in
set_option maxRecDepth 100000 in
/-- wish -/
theorem c_m_wish (l : Launch) (G : gT) (a : aMd) (m : tMd) (wh : Int32) (i : Int32) (j : Int32) (d : Int32) (hnw : m.2.1.2.2.2.1 ≤ 40) (sz : Nat) : MI l yX5_wish wsX5_wish ({ frames := 2, cells := 0, slots := 0, locals := 43 }) G [.ref (a 0), .int wh, .int i, .int j, .int d] (wMd G a m) (wMd G a ((mdWish m wh i j d).2)) sz ((mdWish m wh i j d).1) 0 0 := by
  refine m_of (Qc := fun A9 => (va_Qi (fun (r9 : Int32) (_ : Unit) => r9 = ((mdWish m wh i j d).1)) (fun _ t9 => wPost G A9 (wMd G a ((mdWish m wh i j d).2)) t9) A9)) (cc := cX5_wish) (maxL := 6) (ret := (some .int)) (by decide) rfl (Nat.le_of_ble_eq_true rfl) ?_
  intro p9 e9 s9 m9 A9 be9 mt9 c9 H locs ls hx hb hr hts hown hlocks hin hml hK hA hw hl
  have hl : lv_has ls 6 [(0, .ref (a 0)), (1, .int wh), (2, .int i), (3, .int j), (4, .int d)] := hl
  refine lv_aload_n hx hb dX5_wish_0 rfl (lv_at hl 0 rfl) ?_
  refine lv_iconst (v := 0) hx hb dX5_wish_1 (by decide) ?_
  refine r_put (ci := 5) (v := .int 0) (ty := .int) (C := RX5) (T := TX5) (N := 29) hx hb hts wiX5_wish_m_wish_X5 tyX5 tyX5_ok nmX5 hown hK hw 0 rfl rfl 0 (by decide) wmX5_wish_m_wish_0 (fun _ h9 => h9) rfl (by decide +kernel) rfl rfl (Nat.le_of_ble_eq_true rfl) dX5_wish_2 (ws' := wMd G a (0, m.2.1, m.2.2.1, m.2.2.2.1, m.2.2.2.2.1, m.2.2.2.2.2.1, m.2.2.2.2.2.2)) rfl (fun H locs hw => ?_)
  refine lv_iload_n hx hb dX5_wish_5 rfl (lv_at hl 1 rfl) ?_
  refine lv_iconst (v := 0) hx hb dX5_wish_6 (by decide) ?_
  refine lv_iconst (v := 2) hx hb dX5_wish_7 (by decide) ?_
  have hwc : wW G A9 s9.heap (([] : va_W) ++ (([] : va_W) ++ (wMd G a (0, m.2.1, m.2.2.1, m.2.2.2.1, m.2.2.2.2.1, m.2.2.2.2.2.1, m.2.2.2.2.2.2)))) H locs := hw
  refine r_calli (res := (mdIn wh 0 2)) (u := ([] : va_W)) (w := ([] : va_W)) (v := wMd G a (0, m.2.1, m.2.2.1, m.2.2.2.1, m.2.2.2.2.1, m.2.2.2.2.2.1, m.2.2.2.2.2.2)) (va_runS (As := [.int wh, .int 0, .int 2]) (rest := []) ⟨hx, hb, hml, hown, hts⟩ (c_mdin l G wh 0 2 H.size) (va_cwS 3 hts gX5_wish_X5_in rfl rfl rfl (by decide +kernel) ⟨Nat.le_of_ble_eq_true rfl, Nat.le_of_ble_eq_true rfl⟩) (r_preS hK hwc) rfl rfl hl.1 rfl (lv_room (Nat.le_of_ble_eq_true rfl)) dX5_wish_8 ⟨Nat.le_of_ble_eq_true rfl, Nat.le_of_ble_eq_true rfl⟩) hwc hA rfl rfl (fun H locs hw => ?_)
  have hw : wW G A9 s9.heap (wMd G a (0, m.2.1, m.2.2.1, m.2.2.2.1, m.2.2.2.2.1, m.2.2.2.2.2.1, m.2.2.2.2.2.2)) H locs := hw
  refine lv_if_eq (tgt := 32) hx hb dX5_wish_11 (by decide) (fun c_11 => ?_) (fun c_11 => ?_)
  · refine lv_aload_n hx hb dX5_wish_32 rfl (lv_at hl 0 rfl) ?_
    refine lv_iconst (v := 1) hx hb dX5_wish_33 (by decide) ?_
    have hwc : wW G A9 s9.heap (([] : va_W) ++ ((wMd G a (0, m.2.1, m.2.2.1, m.2.2.2.1, m.2.2.2.2.1, m.2.2.2.2.2.1, m.2.2.2.2.2.2)) ++ ([] : va_W))) H locs := hw
    refine r_calli (res := 0) (u := ([] : va_W)) (w := wMd G a (0, m.2.1, m.2.2.1, m.2.2.2.1, m.2.2.2.2.1, m.2.2.2.2.2.1, m.2.2.2.2.2.2)) (v := ([] : va_W)) (va_runV (As := [.int 1]) (rest := []) ⟨hx, hb, hml, hown, hts⟩ (c_refuses l G a (0, m.2.1, m.2.2.1, m.2.2.2.1, m.2.2.2.2.1, m.2.2.2.2.2.1, m.2.2.2.2.2.2) 1 H.size) (cwV 1 hts gX5_wish_X5_refuses rfl rfl rfl (by decide +kernel) ⟨Nat.le_of_ble_eq_true rfl, Nat.le_of_ble_eq_true rfl⟩) (r_preV (ci := 5) (q0 := 0) hK hwc rfl rfl rfl) rfl rfl hl.1 rfl (lv_room (Nat.le_of_ble_eq_true rfl)) dX5_wish_34 ⟨Nat.le_of_ble_eq_true rfl, Nat.le_of_ble_eq_true rfl⟩) hwc hA rfl rfl (fun H locs hw => ?_)
    have hw : wW G A9 s9.heap (wMd G a (1, m.2.1, m.2.2.1, m.2.2.2.1, m.2.2.2.2.1, m.2.2.2.2.2.1, m.2.2.2.2.2.2)) H locs := hw
    exact m_iret hx hb hr hlocks hK hw (Nat.le_of_ble_eq_true rfl) (Nat.le_of_ble_eq_true rfl) dX5_wish_37 (show (0 : Int32) = (mdWish m wh i j d).1 by first | rfl | (simp only [mdWish, if_pos c_11]; first | done | rfl)) (show wMd G a (1, m.2.1, m.2.2.1, m.2.2.2.1, m.2.2.2.2.1, m.2.2.2.2.2.1, m.2.2.2.2.2.2) = wMd G a ((mdWish m wh i j d).2) by first | rfl | (simp only [mdWish, if_pos c_11]; first | done | rfl))
  · refine lv_iload_n hx hb dX5_wish_14 rfl (lv_at hl 1 rfl) ?_
    refine lv_iconst (v := 2) hx hb dX5_wish_15 (by decide) ?_
    refine lv_icmp_ge (tgt := 38) hx hb dX5_wish_16 (by decide) (fun c_16 => ?_) (fun c_16 => ?_)
    · refine lv_aload_n hx hb dX5_wish_38 rfl (lv_at hl 0 rfl) ?_
      refine lv_iload_n hx hb dX5_wish_39 rfl (lv_at hl 2 rfl) ?_
      have hwc : wW G A9 s9.heap (([] : va_W) ++ ((wMd G a (0, m.2.1, m.2.2.1, m.2.2.2.1, m.2.2.2.2.1, m.2.2.2.2.2.1, m.2.2.2.2.2.2)) ++ ([] : va_W))) H locs := hw
      refine r_calli (res := (mdIn i 0 (nI m.2.1.1 - 1))) (u := ([] : va_W)) (w := wMd G a (0, m.2.1, m.2.2.1, m.2.2.2.1, m.2.2.2.2.1, m.2.2.2.2.2.1, m.2.2.2.2.2.2)) (v := ([] : va_W)) (va_runV (As := [.int i]) (rest := []) ⟨hx, hb, hml, hown, hts⟩ (c_ispoint l G a (0, m.2.1, m.2.2.1, m.2.2.2.1, m.2.2.2.2.1, m.2.2.2.2.2.1, m.2.2.2.2.2.2) i H.size) (cwV 1 hts gX5_wish_X5_isPoint rfl rfl rfl (by decide +kernel) ⟨Nat.le_of_ble_eq_true rfl, Nat.le_of_ble_eq_true rfl⟩) (r_preV (ci := 5) (q0 := 0) hK hwc rfl rfl rfl) rfl rfl hl.1 rfl (lv_room (Nat.le_of_ble_eq_true rfl)) dX5_wish_40 ⟨Nat.le_of_ble_eq_true rfl, Nat.le_of_ble_eq_true rfl⟩) hwc hA rfl rfl (fun H locs hw => ?_)
      have hw : wW G A9 s9.heap (wMd G a (0, m.2.1, m.2.2.1, m.2.2.2.1, m.2.2.2.2.1, m.2.2.2.2.2.1, m.2.2.2.2.2.2)) H locs := hw
      refine lv_if_eq (tgt := 59) hx hb dX5_wish_43 (by decide) (fun c_43 => ?_) (fun c_43 => ?_)
      · refine lv_aload_n hx hb dX5_wish_59 rfl (lv_at hl 0 rfl) ?_
        refine lv_iconst (v := 2) hx hb dX5_wish_60 (by decide) ?_
        have hwc : wW G A9 s9.heap (([] : va_W) ++ ((wMd G a (0, m.2.1, m.2.2.1, m.2.2.2.1, m.2.2.2.2.1, m.2.2.2.2.2.1, m.2.2.2.2.2.2)) ++ ([] : va_W))) H locs := hw
        refine r_calli (res := 0) (u := ([] : va_W)) (w := wMd G a (0, m.2.1, m.2.2.1, m.2.2.2.1, m.2.2.2.2.1, m.2.2.2.2.2.1, m.2.2.2.2.2.2)) (v := ([] : va_W)) (va_runV (As := [.int 2]) (rest := []) ⟨hx, hb, hml, hown, hts⟩ (c_refuses l G a (0, m.2.1, m.2.2.1, m.2.2.2.1, m.2.2.2.2.1, m.2.2.2.2.2.1, m.2.2.2.2.2.2) 2 H.size) (cwV 1 hts gX5_wish_X5_refuses rfl rfl rfl (by decide +kernel) ⟨Nat.le_of_ble_eq_true rfl, Nat.le_of_ble_eq_true rfl⟩) (r_preV (ci := 5) (q0 := 0) hK hwc rfl rfl rfl) rfl rfl hl.1 rfl (lv_room (Nat.le_of_ble_eq_true rfl)) dX5_wish_61 ⟨Nat.le_of_ble_eq_true rfl, Nat.le_of_ble_eq_true rfl⟩) hwc hA rfl rfl (fun H locs hw => ?_)
        have hw : wW G A9 s9.heap (wMd G a (2, m.2.1, m.2.2.1, m.2.2.2.1, m.2.2.2.2.1, m.2.2.2.2.2.1, m.2.2.2.2.2.2)) H locs := hw
        exact m_iret hx hb hr hlocks hK hw (Nat.le_of_ble_eq_true rfl) (Nat.le_of_ble_eq_true rfl) dX5_wish_64 (show (0 : Int32) = (mdWish m wh i j d).1 by first | rfl | (simp only [mdWish, if_neg c_11, if_pos c_16, if_pos c_43]; first | done | rfl)) (show wMd G a (2, m.2.1, m.2.2.1, m.2.2.2.1, m.2.2.2.2.1, m.2.2.2.2.2.1, m.2.2.2.2.2.2) = wMd G a ((mdWish m wh i j d).2) by first | rfl | (simp only [mdWish, if_neg c_11, if_pos c_16, if_pos c_43]; first | done | rfl))
      · refine lv_iload_n hx hb dX5_wish_46 rfl (lv_at hl 1 rfl) ?_
        refine lv_iconst (v := 2) hx hb dX5_wish_47 (by decide) ?_
        refine lv_icmp_ge (tgt := 65) hx hb dX5_wish_48 (by decide) (fun c_48 => ?_) (fun c_48 => ?_)
        · refine lv_aload_n hx hb dX5_wish_65 rfl (lv_at hl 0 rfl) ?_
          refine r_get (ci := 5) (v := .int (nI m.2.1.2.2.2.1)) (C := RX5) (T := TX5) (N := 29) hx hb hts wiX5_wish_m_wish_X5 hown hK hw 0 rfl rfl 4 (by decide) wmX5_wish_m_wish_1 (fun _ h9 => h9) rfl dX5_wish_66 ?_
          refine lv_bipush (v := 40) hx hb dX5_wish_69 (by decide) ?_
          refine lv_icmp_ne (tgt := 80) hx hb dX5_wish_71 (by decide) (fun c_71 => ?_) (fun c_71 => ?_)
          · have hlt : m.2.1.2.2.2.1 < 40 := by have h : ¬ m.2.1.2.2.2.1 = 40 := fun h => c_71 (by rw [h]; rfl); omega
            refine lv_aload_n hx hb dX5_wish_80 rfl (lv_at hl 0 rfl) ?_
            refine r_get (ci := 5) (v := .ref (a 3)) (C := RX5) (T := TX5) (N := 29) hx hb hts wiX5_wish_m_wish_X5 hown hK hw 0 rfl rfl 5 (by decide) wmX5_wish_m_wish_2 (fun _ h9 => h9) rfl dX5_wish_81 ?_
            refine lv_aload_n hx hb dX5_wish_84 rfl (lv_at hl 0 rfl) ?_
            refine r_get (ci := 5) (v := .int (nI m.2.1.2.2.2.1)) (C := RX5) (T := TX5) (N := 29) hx hb hts wiX5_wish_m_wish_X5 hown hK hw 0 rfl rfl 4 (by decide) wmX5_wish_m_wish_1 (fun _ h9 => h9) rfl dX5_wish_85 ?_
            refine lv_iload_n hx hb dX5_wish_88 rfl (lv_at hl 1 rfl) ?_
            refine r_top (y := nI (iN wh)) (nI_iN wh) ?_
            refine r_iast hx hb hK hw 3 rfl m.2.1.2.2.2.1 rfl (by omega) (by decide) dX5_wish_89 (ws' := wMd G a (0, (m.2.1.1, m.2.1.2.1, m.2.1.2.2.1, m.2.1.2.2.2.1, (updN m.2.1.2.2.2.2.1 m.2.1.2.2.2.1 (iN wh)), m.2.1.2.2.2.2.2.1, m.2.1.2.2.2.2.2.2.1, m.2.1.2.2.2.2.2.2.2), m.2.2.1, m.2.2.2.1, m.2.2.2.2.1, m.2.2.2.2.2.1, m.2.2.2.2.2.2)) (by rw [upd_nI]; rfl) (fun H locs hw => ?_)
            refine lv_aload_n hx hb dX5_wish_90 rfl (lv_at hl 0 rfl) ?_
            refine r_get (ci := 5) (v := .ref (a 4)) (C := RX5) (T := TX5) (N := 29) hx hb hts wiX5_wish_m_wish_X5 hown hK hw 0 rfl rfl 6 (by decide) wmX5_wish_m_wish_3 (fun _ h9 => h9) rfl dX5_wish_91 ?_
            refine lv_aload_n hx hb dX5_wish_94 rfl (lv_at hl 0 rfl) ?_
            refine r_get (ci := 5) (v := .int (nI m.2.1.2.2.2.1)) (C := RX5) (T := TX5) (N := 29) hx hb hts wiX5_wish_m_wish_X5 hown hK hw 0 rfl rfl 4 (by decide) wmX5_wish_m_wish_1 (fun _ h9 => h9) rfl dX5_wish_95 ?_
            refine lv_iload_n hx hb dX5_wish_98 rfl (lv_at hl 2 rfl) ?_
            refine r_top (y := nI (iN i)) (nI_iN i) ?_
            refine r_iast hx hb hK hw 4 rfl m.2.1.2.2.2.1 rfl (by omega) (by decide) dX5_wish_99 (ws' := wMd G a (0, (m.2.1.1, m.2.1.2.1, m.2.1.2.2.1, m.2.1.2.2.2.1, (updN m.2.1.2.2.2.2.1 m.2.1.2.2.2.1 (iN wh)), (updN m.2.1.2.2.2.2.2.1 m.2.1.2.2.2.1 (iN i)), m.2.1.2.2.2.2.2.2.1, m.2.1.2.2.2.2.2.2.2), m.2.2.1, m.2.2.2.1, m.2.2.2.2.1, m.2.2.2.2.2.1, m.2.2.2.2.2.2)) (by rw [upd_nI]; rfl) (fun H locs hw => ?_)
            refine lv_aload_n hx hb dX5_wish_100 rfl (lv_at hl 0 rfl) ?_
            refine r_get (ci := 5) (v := .ref (a 5)) (C := RX5) (T := TX5) (N := 29) hx hb hts wiX5_wish_m_wish_X5 hown hK hw 0 rfl rfl 7 (by decide) wmX5_wish_m_wish_4 (fun _ h9 => h9) rfl dX5_wish_101 ?_
            refine lv_aload_n hx hb dX5_wish_104 rfl (lv_at hl 0 rfl) ?_
            refine r_get (ci := 5) (v := .int (nI m.2.1.2.2.2.1)) (C := RX5) (T := TX5) (N := 29) hx hb hts wiX5_wish_m_wish_X5 hown hK hw 0 rfl rfl 4 (by decide) wmX5_wish_m_wish_1 (fun _ h9 => h9) rfl dX5_wish_105 ?_
            refine lv_iload_n hx hb dX5_wish_108 rfl (lv_at hl 3 rfl) ?_
            refine r_top (y := nI (iN j)) (nI_iN j) ?_
            refine r_iast hx hb hK hw 5 rfl m.2.1.2.2.2.1 rfl (by omega) (by decide) dX5_wish_109 (ws' := wMd G a (0, (m.2.1.1, m.2.1.2.1, m.2.1.2.2.1, m.2.1.2.2.2.1, (updN m.2.1.2.2.2.2.1 m.2.1.2.2.2.1 (iN wh)), (updN m.2.1.2.2.2.2.2.1 m.2.1.2.2.2.1 (iN i)), (updN m.2.1.2.2.2.2.2.2.1 m.2.1.2.2.2.1 (iN j)), m.2.1.2.2.2.2.2.2.2), m.2.2.1, m.2.2.2.1, m.2.2.2.2.1, m.2.2.2.2.2.1, m.2.2.2.2.2.2)) (by rw [upd_nI]; rfl) (fun H locs hw => ?_)
            refine lv_aload_n hx hb dX5_wish_110 rfl (lv_at hl 0 rfl) ?_
            refine r_get (ci := 5) (v := .ref (a 6)) (C := RX5) (T := TX5) (N := 29) hx hb hts wiX5_wish_m_wish_X5 hown hK hw 0 rfl rfl 8 (by decide) wmX5_wish_m_wish_5 (fun _ h9 => h9) rfl dX5_wish_111 ?_
            refine lv_aload_n hx hb dX5_wish_114 rfl (lv_at hl 0 rfl) ?_
            refine r_get (ci := 5) (v := .int (nI m.2.1.2.2.2.1)) (C := RX5) (T := TX5) (N := 29) hx hb hts wiX5_wish_m_wish_X5 hown hK hw 0 rfl rfl 4 (by decide) wmX5_wish_m_wish_1 (fun _ h9 => h9) rfl dX5_wish_115 ?_
            refine lv_iload hx hb dX5_wish_118 (lv_at hl 4 rfl) ?_
            refine r_iast hx hb hK hw 6 rfl m.2.1.2.2.2.1 rfl (by omega) (by decide) dX5_wish_120 (ws' := wMd G a (0, (m.2.1.1, m.2.1.2.1, m.2.1.2.2.1, m.2.1.2.2.2.1, (updN m.2.1.2.2.2.2.1 m.2.1.2.2.2.1 (iN wh)), (updN m.2.1.2.2.2.2.2.1 m.2.1.2.2.2.1 (iN i)), (updN m.2.1.2.2.2.2.2.2.1 m.2.1.2.2.2.1 (iN j)), (upd m.2.1.2.2.2.2.2.2.2 m.2.1.2.2.2.1 d)), m.2.2.1, m.2.2.2.1, m.2.2.2.2.1, m.2.2.2.2.2.1, m.2.2.2.2.2.2)) rfl (fun H locs hw => ?_)
            refine lv_iconst (v := 0) hx hb dX5_wish_121 (by decide) ?_
            refine lv_istore (lv' := [(5, .int 0), (0, .ref (a 0)), (1, .int wh), (2, .int i), (3, .int j), (4, .int d)]) hx hb dX5_wish_122 hl (by decide) rfl (fun ls hl => ?_)
            have loop_124 : ∀ (nf : Nat) (k : Nat) (hnf : (4 - k) < nf) (hk : k ≤ 4), ∀ (H : Heap) (locs : List Loc) (ls : Array Slot), wW G A9 s9.heap (wMd G a (0, (m.2.1.1, m.2.1.2.1, m.2.1.2.2.1, m.2.1.2.2.2.1, (updN m.2.1.2.2.2.2.1 m.2.1.2.2.2.1 (iN wh)), (updN m.2.1.2.2.2.2.2.1 m.2.1.2.2.2.1 (iN i)), (updN m.2.1.2.2.2.2.2.2.1 m.2.1.2.2.2.1 (iN j)), (upd m.2.1.2.2.2.2.2.2.2 m.2.1.2.2.2.1 d)), (m.2.2.1.1, (mdTlK m.2.2.1.2 m.2.1.2.2.2.1 k)), m.2.2.2.1, m.2.2.2.2.1, m.2.2.2.2.2.1, m.2.2.2.2.2.2)) H locs → lv_has ls 6 [(0, .ref (a 0)), (1, .int wh), (2, .int i), (3, .int j), (4, .int d), (5, .int (nI k))] → W p9 l e9 ({ frames := 2, cells := 0, slots := 0, locals := 43 }) s9 m9 [.ref (a 0), .int wh, .int i, .int j, .int d].toArray be9 mt9 c9 H locs 0 0 (MQ be9 (va_Qi (fun (r9 : Int32) (_ : Unit) => r9 = ((mdWish m wh i j d).1)) (fun _ t9 => wPost G A9 (wMd G a ((mdWish m wh i j d).2)) t9) A9) [.ref (a 0), .int wh, .int i, .int j, .int d].toArray s9 0 0 A9) (F0 m9 124 ls []) := by
              intro nf
              induction nf with
              | zero => intro k hnf hk; exact absurd hnf (Nat.not_lt_zero _)
              | succ nf ih_124 =>
                intro k hnf hk H locs ls hw hl
                refine lv_iload hx hb dX5_wish_124 (lv_at hl 5 rfl) ?_
                refine lv_iconst (v := 4) hx hb dX5_wish_126 (by decide) ?_
                refine lv_icmp_ge (tgt := 152) hx hb dX5_wish_127 (by decide) (fun c_127 => ?_) (fun c_127 => ?_)
                · have hx_127 : 4 ≤ k := ct_ge (k := k) (n := 4) (by omega) (by omega) c_127
                  refine lv_aload_n hx hb dX5_wish_152 rfl (lv_at hl 0 rfl) ?_
                  refine lv_dup hx hb dX5_wish_153 rfl ?_
                  refine r_get (ci := 5) (v := .int (nI m.2.1.2.2.2.1)) (C := RX5) (T := TX5) (N := 29) hx hb hts wiX5_wish_m_wish_X5 hown hK hw 0 rfl rfl 4 (by decide) wmX5_wish_m_wish_1 (fun _ h9 => h9) rfl dX5_wish_154 ?_
                  refine lv_iconst (v := 1) hx hb dX5_wish_157 (by decide) ?_
                  refine lv_iadd hx hb dX5_wish_158 ?_
                  refine r_top (y := nI (m.2.1.2.2.2.1 + 1)) (nI_add m.2.1.2.2.2.1 1) ?_
                  refine r_put (ci := 5) (v := .int (nI (m.2.1.2.2.2.1 + 1))) (ty := .int) (C := RX5) (T := TX5) (N := 29) hx hb hts wiX5_wish_m_wish_X5 tyX5 tyX5_ok nmX5 hown hK hw 0 rfl rfl 4 (by decide) wmX5_wish_m_wish_1 (fun _ h9 => h9) rfl (by decide +kernel) rfl rfl (Nat.le_of_ble_eq_true rfl) dX5_wish_159 (ws' := wMd G a (0, (m.2.1.1, m.2.1.2.1, m.2.1.2.2.1, m.2.1.2.2.2.1 + 1, (updN m.2.1.2.2.2.2.1 m.2.1.2.2.2.1 (iN wh)), (updN m.2.1.2.2.2.2.2.1 m.2.1.2.2.2.1 (iN i)), (updN m.2.1.2.2.2.2.2.2.1 m.2.1.2.2.2.1 (iN j)), (upd m.2.1.2.2.2.2.2.2.2 m.2.1.2.2.2.1 d)), (m.2.2.1.1, (mdTlK m.2.2.1.2 m.2.1.2.2.2.1 k)), m.2.2.2.1, m.2.2.2.2.1, m.2.2.2.2.2.1, m.2.2.2.2.2.2)) rfl (fun H locs hw => ?_)
                  refine lv_aload_n hx hb dX5_wish_162 rfl (lv_at hl 0 rfl) ?_
                  refine r_get (ci := 5) (v := .int (nI (m.2.1.2.2.2.1 + 1))) (C := RX5) (T := TX5) (N := 29) hx hb hts wiX5_wish_m_wish_X5 hown hK hw 0 rfl rfl 4 (by decide) wmX5_wish_m_wish_1 (fun _ h9 => h9) rfl dX5_wish_163 ?_
                  refine lv_iconst (v := 1) hx hb dX5_wish_166 (by decide) ?_
                  refine lv_isub hx hb dX5_wish_167 ?_
                  refine r_top (y := nI m.2.1.2.2.2.1) (nI_pred m.2.1.2.2.2.1) ?_
                  exact m_iret hx hb hr hlocks hK hw (Nat.le_of_ble_eq_true rfl) (Nat.le_of_ble_eq_true rfl) dX5_wish_168 (show (nI m.2.1.2.2.2.1 : Int32) = (mdWish m wh i j d).1 by simp only [mdWish, if_neg c_11, if_pos c_16, if_neg c_43, if_neg c_71]) (show wMd G a (0, (m.2.1.1, m.2.1.2.1, m.2.1.2.2.1, m.2.1.2.2.2.1 + 1, (updN m.2.1.2.2.2.2.1 m.2.1.2.2.2.1 (iN wh)), (updN m.2.1.2.2.2.2.2.1 m.2.1.2.2.2.1 (iN i)), (updN m.2.1.2.2.2.2.2.2.1 m.2.1.2.2.2.1 (iN j)), (upd m.2.1.2.2.2.2.2.2.2 m.2.1.2.2.2.1 d)), (m.2.2.1.1, (mdTlK m.2.2.1.2 m.2.1.2.2.2.1 k)), m.2.2.2.1, m.2.2.2.2.1, m.2.2.2.2.2.1, m.2.2.2.2.2.2) = wMd G a ((mdWish m wh i j d).2) by rw [show k = 4 by omega]; simp only [mdWish, if_neg c_11, if_pos c_16, if_neg c_43, if_neg c_71])
                · have hc_127 : k < 4 := ct_nge (k := k) (n := 4) (by omega) (by omega) c_127
                  refine lv_aload_n hx hb dX5_wish_130 rfl (lv_at hl 0 rfl) ?_
                  refine r_get (ci := 5) (v := .ref (a 9)) (C := RX5) (T := TX5) (N := 29) hx hb hts wiX5_wish_m_wish_X5 hown hK hw 0 rfl rfl 11 (by decide) wmX5_wish_m_wish_6 (fun _ h9 => h9) rfl dX5_wish_131 ?_
                  refine lv_bipush (v := 40) hx hb dX5_wish_134 (by decide) ?_
                  refine lv_iload hx hb dX5_wish_136 (lv_at hl 5 rfl) ?_
                  refine lv_imul hx hb dX5_wish_138 ?_
                  refine r_top (y := nI (40 * k)) (pk_mul 40 k) ?_
                  refine lv_aload_n hx hb dX5_wish_139 rfl (lv_at hl 0 rfl) ?_
                  refine r_get (ci := 5) (v := .int (nI m.2.1.2.2.2.1)) (C := RX5) (T := TX5) (N := 29) hx hb hts wiX5_wish_m_wish_X5 hown hK hw 0 rfl rfl 4 (by decide) wmX5_wish_m_wish_1 (fun _ h9 => h9) rfl dX5_wish_140 ?_
                  refine lv_iadd hx hb dX5_wish_143 ?_
                  refine r_top (y := nI ((40 * k) + m.2.1.2.2.2.1)) (nI_add (40 * k) m.2.1.2.2.2.1) ?_
                  refine lv_iconst (v := 0) hx hb dX5_wish_144 (by decide) ?_
                  refine r_zast hx hb hK hw 9 rfl ((40 * k) + m.2.1.2.2.2.1) rfl (by omega) (by decide) (by rfl) dX5_wish_145 (ws' := wMd G a (0, (m.2.1.1, m.2.1.2.1, m.2.1.2.2.1, m.2.1.2.2.2.1, (updN m.2.1.2.2.2.2.1 m.2.1.2.2.2.1 (iN wh)), (updN m.2.1.2.2.2.2.2.1 m.2.1.2.2.2.1 (iN i)), (updN m.2.1.2.2.2.2.2.2.1 m.2.1.2.2.2.1 (iN j)), (upd m.2.1.2.2.2.2.2.2.2 m.2.1.2.2.2.1 d)), (m.2.2.1.1, (upd (mdTlK m.2.2.1.2 m.2.1.2.2.2.1 k) ((40 * k) + m.2.1.2.2.2.1) 0)), m.2.2.2.1, m.2.2.2.2.1, m.2.2.2.2.2.1, m.2.2.2.2.2.2)) rfl (fun H locs hw => ?_)
                  refine lv_iinc (v := nI (k + 1)) (lv' := [(5, .int (nI (k + 1))), (0, .ref (a 0)), (1, .int wh), (2, .int i), (3, .int j), (4, .int d)]) hx hb dX5_wish_146 hl (k := 5) rfl (nI_add k 1) (by decide) rfl (fun ls hl => ?_)
                  refine lv_goto (tgt := 124) hx hb dX5_wish_149 (by decide) ?_
                  exact ih_124 (k + 1) (by omega) (by first | assumption | omega | rfl) _ _ _ (wW.eq (show wMd G a (0, (m.2.1.1, m.2.1.2.1, m.2.1.2.2.1, m.2.1.2.2.2.1, (updN m.2.1.2.2.2.2.1 m.2.1.2.2.2.1 (iN wh)), (updN m.2.1.2.2.2.2.2.1 m.2.1.2.2.2.1 (iN i)), (updN m.2.1.2.2.2.2.2.2.1 m.2.1.2.2.2.1 (iN j)), (upd m.2.1.2.2.2.2.2.2.2 m.2.1.2.2.2.1 d)), (m.2.2.1.1, (upd (mdTlK m.2.2.1.2 m.2.1.2.2.2.1 k) ((40 * k) + m.2.1.2.2.2.1) 0)), m.2.2.2.1, m.2.2.2.2.1, m.2.2.2.2.2.1, m.2.2.2.2.2.2) = wMd G a (0, (m.2.1.1, m.2.1.2.1, m.2.1.2.2.1, m.2.1.2.2.2.1, (updN m.2.1.2.2.2.2.1 m.2.1.2.2.2.1 (iN wh)), (updN m.2.1.2.2.2.2.2.1 m.2.1.2.2.2.1 (iN i)), (updN m.2.1.2.2.2.2.2.2.1 m.2.1.2.2.2.1 (iN j)), (upd m.2.1.2.2.2.2.2.2.2 m.2.1.2.2.2.1 d)), (m.2.2.1.1, (mdTlK m.2.2.1.2 m.2.1.2.2.2.1 (k + 1))), m.2.2.2.1, m.2.2.2.2.1, m.2.2.2.2.2.1, m.2.2.2.2.2.2) from rfl) hw) (lv_sub hl [1, 2, 3, 4, 5, 0] rfl)
            exact loop_124 ((4 - 0) + 1) 0 (Nat.lt_succ_self _) (by first | assumption | omega | rfl) _ _ _ (wW.eq (show wMd G a (0, (m.2.1.1, m.2.1.2.1, m.2.1.2.2.1, m.2.1.2.2.2.1, (updN m.2.1.2.2.2.2.1 m.2.1.2.2.2.1 (iN wh)), (updN m.2.1.2.2.2.2.2.1 m.2.1.2.2.2.1 (iN i)), (updN m.2.1.2.2.2.2.2.2.1 m.2.1.2.2.2.1 (iN j)), (upd m.2.1.2.2.2.2.2.2.2 m.2.1.2.2.2.1 d)), m.2.2.1, m.2.2.2.1, m.2.2.2.2.1, m.2.2.2.2.2.1, m.2.2.2.2.2.2) = wMd G a (0, (m.2.1.1, m.2.1.2.1, m.2.1.2.2.1, m.2.1.2.2.2.1, (updN m.2.1.2.2.2.2.1 m.2.1.2.2.2.1 (iN wh)), (updN m.2.1.2.2.2.2.2.1 m.2.1.2.2.2.1 (iN i)), (updN m.2.1.2.2.2.2.2.2.1 m.2.1.2.2.2.1 (iN j)), (upd m.2.1.2.2.2.2.2.2.2 m.2.1.2.2.2.1 d)), (m.2.2.1.1, (mdTlK m.2.2.1.2 m.2.1.2.2.2.1 0)), m.2.2.2.1, m.2.2.2.2.1, m.2.2.2.2.2.1, m.2.2.2.2.2.2) from rfl) hw) (lv_sub hl [1, 2, 3, 4, 5, 0] rfl)
          · refine lv_aload_n hx hb dX5_wish_74 rfl (lv_at hl 0 rfl) ?_
            refine lv_iconst (v := 3) hx hb dX5_wish_75 (by decide) ?_
            have hwc : wW G A9 s9.heap (([] : va_W) ++ ((wMd G a (0, m.2.1, m.2.2.1, m.2.2.2.1, m.2.2.2.2.1, m.2.2.2.2.2.1, m.2.2.2.2.2.2)) ++ ([] : va_W))) H locs := hw
            refine r_calli (res := 0) (u := ([] : va_W)) (w := wMd G a (0, m.2.1, m.2.2.1, m.2.2.2.1, m.2.2.2.2.1, m.2.2.2.2.2.1, m.2.2.2.2.2.2)) (v := ([] : va_W)) (va_runV (As := [.int 3]) (rest := []) ⟨hx, hb, hml, hown, hts⟩ (c_refuses l G a (0, m.2.1, m.2.2.1, m.2.2.2.1, m.2.2.2.2.1, m.2.2.2.2.2.1, m.2.2.2.2.2.2) 3 H.size) (cwV 1 hts gX5_wish_X5_refuses rfl rfl rfl (by decide +kernel) ⟨Nat.le_of_ble_eq_true rfl, Nat.le_of_ble_eq_true rfl⟩) (r_preV (ci := 5) (q0 := 0) hK hwc rfl rfl rfl) rfl rfl hl.1 rfl (lv_room (Nat.le_of_ble_eq_true rfl)) dX5_wish_76 ⟨Nat.le_of_ble_eq_true rfl, Nat.le_of_ble_eq_true rfl⟩) hwc hA rfl rfl (fun H locs hw => ?_)
            have hw : wW G A9 s9.heap (wMd G a (3, m.2.1, m.2.2.1, m.2.2.2.1, m.2.2.2.2.1, m.2.2.2.2.2.1, m.2.2.2.2.2.2)) H locs := hw
            exact m_iret hx hb hr hlocks hK hw (Nat.le_of_ble_eq_true rfl) (Nat.le_of_ble_eq_true rfl) dX5_wish_79 (show (0 : Int32) = (mdWish m wh i j d).1 by first | rfl | (simp only [mdWish, if_neg c_11, if_pos c_16, if_neg c_43, if_pos c_48, if_pos c_71]; first | done | rfl)) (show wMd G a (3, m.2.1, m.2.2.1, m.2.2.2.1, m.2.2.2.2.1, m.2.2.2.2.2.1, m.2.2.2.2.2.2) = wMd G a ((mdWish m wh i j d).2) by first | rfl | (simp only [mdWish, if_neg c_11, if_pos c_16, if_neg c_43, if_pos c_48, if_pos c_71]; first | done | rfl))
        · exact absurd c_16 c_48
    · refine lv_iload hx hb dX5_wish_19 (lv_at hl 4 rfl) ?_
      have hwc : wW G A9 s9.heap (([] : va_W) ++ (([] : va_W) ++ (wMd G a (0, m.2.1, m.2.2.1, m.2.2.2.1, m.2.2.2.2.1, m.2.2.2.2.2.1, m.2.2.2.2.2.2)))) H locs := hw
      refine r_calli (res := (mdIn d (-100) 100)) (u := ([] : va_W)) (w := ([] : va_W)) (v := wMd G a (0, m.2.1, m.2.2.1, m.2.2.2.1, m.2.2.2.2.1, m.2.2.2.2.2.1, m.2.2.2.2.2.2)) (va_runS (As := [.int d]) (rest := []) ⟨hx, hb, hml, hown, hts⟩ (c_near l G d H.size) (va_cwS 1 hts gX5_wish_X5_isNear rfl rfl rfl (by decide +kernel) ⟨Nat.le_of_ble_eq_true rfl, Nat.le_of_ble_eq_true rfl⟩) (r_preS hK hwc) rfl rfl hl.1 rfl (lv_room (Nat.le_of_ble_eq_true rfl)) dX5_wish_21 ⟨Nat.le_of_ble_eq_true rfl, Nat.le_of_ble_eq_true rfl⟩) hwc hA rfl rfl (fun H locs hw => ?_)
      have hw : wW G A9 s9.heap (wMd G a (0, m.2.1, m.2.2.1, m.2.2.2.1, m.2.2.2.2.1, m.2.2.2.2.2.1, m.2.2.2.2.2.2)) H locs := hw
      refine lv_if_eq (tgt := 32) hx hb dX5_wish_24 (by decide) (fun c_24 => ?_) (fun c_24 => ?_)
      · refine lv_aload_n hx hb dX5_wish_32 rfl (lv_at hl 0 rfl) ?_
        refine lv_iconst (v := 1) hx hb dX5_wish_33 (by decide) ?_
        have hwc : wW G A9 s9.heap (([] : va_W) ++ ((wMd G a (0, m.2.1, m.2.2.1, m.2.2.2.1, m.2.2.2.2.1, m.2.2.2.2.2.1, m.2.2.2.2.2.2)) ++ ([] : va_W))) H locs := hw
        refine r_calli (res := 0) (u := ([] : va_W)) (w := wMd G a (0, m.2.1, m.2.2.1, m.2.2.2.1, m.2.2.2.2.1, m.2.2.2.2.2.1, m.2.2.2.2.2.2)) (v := ([] : va_W)) (va_runV (As := [.int 1]) (rest := []) ⟨hx, hb, hml, hown, hts⟩ (c_refuses l G a (0, m.2.1, m.2.2.1, m.2.2.2.1, m.2.2.2.2.1, m.2.2.2.2.2.1, m.2.2.2.2.2.2) 1 H.size) (cwV 1 hts gX5_wish_X5_refuses rfl rfl rfl (by decide +kernel) ⟨Nat.le_of_ble_eq_true rfl, Nat.le_of_ble_eq_true rfl⟩) (r_preV (ci := 5) (q0 := 0) hK hwc rfl rfl rfl) rfl rfl hl.1 rfl (lv_room (Nat.le_of_ble_eq_true rfl)) dX5_wish_34 ⟨Nat.le_of_ble_eq_true rfl, Nat.le_of_ble_eq_true rfl⟩) hwc hA rfl rfl (fun H locs hw => ?_)
        have hw : wW G A9 s9.heap (wMd G a (1, m.2.1, m.2.2.1, m.2.2.2.1, m.2.2.2.2.1, m.2.2.2.2.2.1, m.2.2.2.2.2.2)) H locs := hw
        exact m_iret hx hb hr hlocks hK hw (Nat.le_of_ble_eq_true rfl) (Nat.le_of_ble_eq_true rfl) dX5_wish_37 (show (0 : Int32) = (mdWish m wh i j d).1 by first | rfl | (simp only [mdWish, if_neg c_11, if_neg c_16, if_pos c_24]; first | done | rfl)) (show wMd G a (1, m.2.1, m.2.2.1, m.2.2.2.1, m.2.2.2.2.1, m.2.2.2.2.2.1, m.2.2.2.2.2.2) = wMd G a ((mdWish m wh i j d).2) by first | rfl | (simp only [mdWish, if_neg c_11, if_neg c_16, if_pos c_24]; first | done | rfl))
      · refine lv_iload_n hx hb dX5_wish_27 rfl (lv_at hl 2 rfl) ?_
        refine lv_iload_n hx hb dX5_wish_28 rfl (lv_at hl 3 rfl) ?_
        refine lv_icmp_ne (tgt := 38) hx hb dX5_wish_29 (by decide) (fun c_29 => ?_) (fun c_29 => ?_)
        · refine lv_aload_n hx hb dX5_wish_38 rfl (lv_at hl 0 rfl) ?_
          refine lv_iload_n hx hb dX5_wish_39 rfl (lv_at hl 2 rfl) ?_
          have hwc : wW G A9 s9.heap (([] : va_W) ++ ((wMd G a (0, m.2.1, m.2.2.1, m.2.2.2.1, m.2.2.2.2.1, m.2.2.2.2.2.1, m.2.2.2.2.2.2)) ++ ([] : va_W))) H locs := hw
          refine r_calli (res := (mdIn i 0 (nI m.2.1.1 - 1))) (u := ([] : va_W)) (w := wMd G a (0, m.2.1, m.2.2.1, m.2.2.2.1, m.2.2.2.2.1, m.2.2.2.2.2.1, m.2.2.2.2.2.2)) (v := ([] : va_W)) (va_runV (As := [.int i]) (rest := []) ⟨hx, hb, hml, hown, hts⟩ (c_ispoint l G a (0, m.2.1, m.2.2.1, m.2.2.2.1, m.2.2.2.2.1, m.2.2.2.2.2.1, m.2.2.2.2.2.2) i H.size) (cwV 1 hts gX5_wish_X5_isPoint rfl rfl rfl (by decide +kernel) ⟨Nat.le_of_ble_eq_true rfl, Nat.le_of_ble_eq_true rfl⟩) (r_preV (ci := 5) (q0 := 0) hK hwc rfl rfl rfl) rfl rfl hl.1 rfl (lv_room (Nat.le_of_ble_eq_true rfl)) dX5_wish_40 ⟨Nat.le_of_ble_eq_true rfl, Nat.le_of_ble_eq_true rfl⟩) hwc hA rfl rfl (fun H locs hw => ?_)
          have hw : wW G A9 s9.heap (wMd G a (0, m.2.1, m.2.2.1, m.2.2.2.1, m.2.2.2.2.1, m.2.2.2.2.2.1, m.2.2.2.2.2.2)) H locs := hw
          refine lv_if_eq (tgt := 59) hx hb dX5_wish_43 (by decide) (fun c_43 => ?_) (fun c_43 => ?_)
          · refine lv_aload_n hx hb dX5_wish_59 rfl (lv_at hl 0 rfl) ?_
            refine lv_iconst (v := 2) hx hb dX5_wish_60 (by decide) ?_
            have hwc : wW G A9 s9.heap (([] : va_W) ++ ((wMd G a (0, m.2.1, m.2.2.1, m.2.2.2.1, m.2.2.2.2.1, m.2.2.2.2.2.1, m.2.2.2.2.2.2)) ++ ([] : va_W))) H locs := hw
            refine r_calli (res := 0) (u := ([] : va_W)) (w := wMd G a (0, m.2.1, m.2.2.1, m.2.2.2.1, m.2.2.2.2.1, m.2.2.2.2.2.1, m.2.2.2.2.2.2)) (v := ([] : va_W)) (va_runV (As := [.int 2]) (rest := []) ⟨hx, hb, hml, hown, hts⟩ (c_refuses l G a (0, m.2.1, m.2.2.1, m.2.2.2.1, m.2.2.2.2.1, m.2.2.2.2.2.1, m.2.2.2.2.2.2) 2 H.size) (cwV 1 hts gX5_wish_X5_refuses rfl rfl rfl (by decide +kernel) ⟨Nat.le_of_ble_eq_true rfl, Nat.le_of_ble_eq_true rfl⟩) (r_preV (ci := 5) (q0 := 0) hK hwc rfl rfl rfl) rfl rfl hl.1 rfl (lv_room (Nat.le_of_ble_eq_true rfl)) dX5_wish_61 ⟨Nat.le_of_ble_eq_true rfl, Nat.le_of_ble_eq_true rfl⟩) hwc hA rfl rfl (fun H locs hw => ?_)
            have hw : wW G A9 s9.heap (wMd G a (2, m.2.1, m.2.2.1, m.2.2.2.1, m.2.2.2.2.1, m.2.2.2.2.2.1, m.2.2.2.2.2.2)) H locs := hw
            exact m_iret hx hb hr hlocks hK hw (Nat.le_of_ble_eq_true rfl) (Nat.le_of_ble_eq_true rfl) dX5_wish_64 (show (0 : Int32) = (mdWish m wh i j d).1 by first | rfl | (simp only [mdWish, if_neg c_11, if_neg c_16, if_neg c_24, if_neg c_29, if_pos c_43]; first | done | rfl)) (show wMd G a (2, m.2.1, m.2.2.1, m.2.2.2.1, m.2.2.2.2.1, m.2.2.2.2.2.1, m.2.2.2.2.2.2) = wMd G a ((mdWish m wh i j d).2) by first | rfl | (simp only [mdWish, if_neg c_11, if_neg c_16, if_neg c_24, if_neg c_29, if_pos c_43]; first | done | rfl))
          · refine lv_iload_n hx hb dX5_wish_46 rfl (lv_at hl 1 rfl) ?_
            refine lv_iconst (v := 2) hx hb dX5_wish_47 (by decide) ?_
            refine lv_icmp_ge (tgt := 65) hx hb dX5_wish_48 (by decide) (fun c_48 => ?_) (fun c_48 => ?_)
            · exact absurd c_48 c_16
            · refine lv_aload_n hx hb dX5_wish_51 rfl (lv_at hl 0 rfl) ?_
              refine lv_iload_n hx hb dX5_wish_52 rfl (lv_at hl 3 rfl) ?_
              have hwc : wW G A9 s9.heap (([] : va_W) ++ ((wMd G a (0, m.2.1, m.2.2.1, m.2.2.2.1, m.2.2.2.2.1, m.2.2.2.2.2.1, m.2.2.2.2.2.2)) ++ ([] : va_W))) H locs := hw
              refine r_calli (res := (mdIn j 0 (nI m.2.1.1 - 1))) (u := ([] : va_W)) (w := wMd G a (0, m.2.1, m.2.2.1, m.2.2.2.1, m.2.2.2.2.1, m.2.2.2.2.2.1, m.2.2.2.2.2.2)) (v := ([] : va_W)) (va_runV (As := [.int j]) (rest := []) ⟨hx, hb, hml, hown, hts⟩ (c_ispoint l G a (0, m.2.1, m.2.2.1, m.2.2.2.1, m.2.2.2.2.1, m.2.2.2.2.2.1, m.2.2.2.2.2.2) j H.size) (cwV 1 hts gX5_wish_X5_isPoint rfl rfl rfl (by decide +kernel) ⟨Nat.le_of_ble_eq_true rfl, Nat.le_of_ble_eq_true rfl⟩) (r_preV (ci := 5) (q0 := 0) hK hwc rfl rfl rfl) rfl rfl hl.1 rfl (lv_room (Nat.le_of_ble_eq_true rfl)) dX5_wish_53 ⟨Nat.le_of_ble_eq_true rfl, Nat.le_of_ble_eq_true rfl⟩) hwc hA rfl rfl (fun H locs hw => ?_)
              have hw : wW G A9 s9.heap (wMd G a (0, m.2.1, m.2.2.1, m.2.2.2.1, m.2.2.2.2.1, m.2.2.2.2.2.1, m.2.2.2.2.2.2)) H locs := hw
              refine lv_if_ne (tgt := 65) hx hb dX5_wish_56 (by decide) (fun c_56 => ?_) (fun c_56 => ?_)
              · refine lv_aload_n hx hb dX5_wish_65 rfl (lv_at hl 0 rfl) ?_
                refine r_get (ci := 5) (v := .int (nI m.2.1.2.2.2.1)) (C := RX5) (T := TX5) (N := 29) hx hb hts wiX5_wish_m_wish_X5 hown hK hw 0 rfl rfl 4 (by decide) wmX5_wish_m_wish_1 (fun _ h9 => h9) rfl dX5_wish_66 ?_
                refine lv_bipush (v := 40) hx hb dX5_wish_69 (by decide) ?_
                refine lv_icmp_ne (tgt := 80) hx hb dX5_wish_71 (by decide) (fun c_71 => ?_) (fun c_71 => ?_)
                · have hlt : m.2.1.2.2.2.1 < 40 := by have h : ¬ m.2.1.2.2.2.1 = 40 := fun h => c_71 (by rw [h]; rfl); omega
                  refine lv_aload_n hx hb dX5_wish_80 rfl (lv_at hl 0 rfl) ?_
                  refine r_get (ci := 5) (v := .ref (a 3)) (C := RX5) (T := TX5) (N := 29) hx hb hts wiX5_wish_m_wish_X5 hown hK hw 0 rfl rfl 5 (by decide) wmX5_wish_m_wish_2 (fun _ h9 => h9) rfl dX5_wish_81 ?_
                  refine lv_aload_n hx hb dX5_wish_84 rfl (lv_at hl 0 rfl) ?_
                  refine r_get (ci := 5) (v := .int (nI m.2.1.2.2.2.1)) (C := RX5) (T := TX5) (N := 29) hx hb hts wiX5_wish_m_wish_X5 hown hK hw 0 rfl rfl 4 (by decide) wmX5_wish_m_wish_1 (fun _ h9 => h9) rfl dX5_wish_85 ?_
                  refine lv_iload_n hx hb dX5_wish_88 rfl (lv_at hl 1 rfl) ?_
                  refine r_top (y := nI (iN wh)) (nI_iN wh) ?_
                  refine r_iast hx hb hK hw 3 rfl m.2.1.2.2.2.1 rfl (by omega) (by decide) dX5_wish_89 (ws' := wMd G a (0, (m.2.1.1, m.2.1.2.1, m.2.1.2.2.1, m.2.1.2.2.2.1, (updN m.2.1.2.2.2.2.1 m.2.1.2.2.2.1 (iN wh)), m.2.1.2.2.2.2.2.1, m.2.1.2.2.2.2.2.2.1, m.2.1.2.2.2.2.2.2.2), m.2.2.1, m.2.2.2.1, m.2.2.2.2.1, m.2.2.2.2.2.1, m.2.2.2.2.2.2)) (by rw [upd_nI]; rfl) (fun H locs hw => ?_)
                  refine lv_aload_n hx hb dX5_wish_90 rfl (lv_at hl 0 rfl) ?_
                  refine r_get (ci := 5) (v := .ref (a 4)) (C := RX5) (T := TX5) (N := 29) hx hb hts wiX5_wish_m_wish_X5 hown hK hw 0 rfl rfl 6 (by decide) wmX5_wish_m_wish_3 (fun _ h9 => h9) rfl dX5_wish_91 ?_
                  refine lv_aload_n hx hb dX5_wish_94 rfl (lv_at hl 0 rfl) ?_
                  refine r_get (ci := 5) (v := .int (nI m.2.1.2.2.2.1)) (C := RX5) (T := TX5) (N := 29) hx hb hts wiX5_wish_m_wish_X5 hown hK hw 0 rfl rfl 4 (by decide) wmX5_wish_m_wish_1 (fun _ h9 => h9) rfl dX5_wish_95 ?_
                  refine lv_iload_n hx hb dX5_wish_98 rfl (lv_at hl 2 rfl) ?_
                  refine r_top (y := nI (iN i)) (nI_iN i) ?_
                  refine r_iast hx hb hK hw 4 rfl m.2.1.2.2.2.1 rfl (by omega) (by decide) dX5_wish_99 (ws' := wMd G a (0, (m.2.1.1, m.2.1.2.1, m.2.1.2.2.1, m.2.1.2.2.2.1, (updN m.2.1.2.2.2.2.1 m.2.1.2.2.2.1 (iN wh)), (updN m.2.1.2.2.2.2.2.1 m.2.1.2.2.2.1 (iN i)), m.2.1.2.2.2.2.2.2.1, m.2.1.2.2.2.2.2.2.2), m.2.2.1, m.2.2.2.1, m.2.2.2.2.1, m.2.2.2.2.2.1, m.2.2.2.2.2.2)) (by rw [upd_nI]; rfl) (fun H locs hw => ?_)
                  refine lv_aload_n hx hb dX5_wish_100 rfl (lv_at hl 0 rfl) ?_
                  refine r_get (ci := 5) (v := .ref (a 5)) (C := RX5) (T := TX5) (N := 29) hx hb hts wiX5_wish_m_wish_X5 hown hK hw 0 rfl rfl 7 (by decide) wmX5_wish_m_wish_4 (fun _ h9 => h9) rfl dX5_wish_101 ?_
                  refine lv_aload_n hx hb dX5_wish_104 rfl (lv_at hl 0 rfl) ?_
                  refine r_get (ci := 5) (v := .int (nI m.2.1.2.2.2.1)) (C := RX5) (T := TX5) (N := 29) hx hb hts wiX5_wish_m_wish_X5 hown hK hw 0 rfl rfl 4 (by decide) wmX5_wish_m_wish_1 (fun _ h9 => h9) rfl dX5_wish_105 ?_
                  refine lv_iload_n hx hb dX5_wish_108 rfl (lv_at hl 3 rfl) ?_
                  refine r_top (y := nI (iN j)) (nI_iN j) ?_
                  refine r_iast hx hb hK hw 5 rfl m.2.1.2.2.2.1 rfl (by omega) (by decide) dX5_wish_109 (ws' := wMd G a (0, (m.2.1.1, m.2.1.2.1, m.2.1.2.2.1, m.2.1.2.2.2.1, (updN m.2.1.2.2.2.2.1 m.2.1.2.2.2.1 (iN wh)), (updN m.2.1.2.2.2.2.2.1 m.2.1.2.2.2.1 (iN i)), (updN m.2.1.2.2.2.2.2.2.1 m.2.1.2.2.2.1 (iN j)), m.2.1.2.2.2.2.2.2.2), m.2.2.1, m.2.2.2.1, m.2.2.2.2.1, m.2.2.2.2.2.1, m.2.2.2.2.2.2)) (by rw [upd_nI]; rfl) (fun H locs hw => ?_)
                  refine lv_aload_n hx hb dX5_wish_110 rfl (lv_at hl 0 rfl) ?_
                  refine r_get (ci := 5) (v := .ref (a 6)) (C := RX5) (T := TX5) (N := 29) hx hb hts wiX5_wish_m_wish_X5 hown hK hw 0 rfl rfl 8 (by decide) wmX5_wish_m_wish_5 (fun _ h9 => h9) rfl dX5_wish_111 ?_
                  refine lv_aload_n hx hb dX5_wish_114 rfl (lv_at hl 0 rfl) ?_
                  refine r_get (ci := 5) (v := .int (nI m.2.1.2.2.2.1)) (C := RX5) (T := TX5) (N := 29) hx hb hts wiX5_wish_m_wish_X5 hown hK hw 0 rfl rfl 4 (by decide) wmX5_wish_m_wish_1 (fun _ h9 => h9) rfl dX5_wish_115 ?_
                  refine lv_iload hx hb dX5_wish_118 (lv_at hl 4 rfl) ?_
                  refine r_iast hx hb hK hw 6 rfl m.2.1.2.2.2.1 rfl (by omega) (by decide) dX5_wish_120 (ws' := wMd G a (0, (m.2.1.1, m.2.1.2.1, m.2.1.2.2.1, m.2.1.2.2.2.1, (updN m.2.1.2.2.2.2.1 m.2.1.2.2.2.1 (iN wh)), (updN m.2.1.2.2.2.2.2.1 m.2.1.2.2.2.1 (iN i)), (updN m.2.1.2.2.2.2.2.2.1 m.2.1.2.2.2.1 (iN j)), (upd m.2.1.2.2.2.2.2.2.2 m.2.1.2.2.2.1 d)), m.2.2.1, m.2.2.2.1, m.2.2.2.2.1, m.2.2.2.2.2.1, m.2.2.2.2.2.2)) rfl (fun H locs hw => ?_)
                  refine lv_iconst (v := 0) hx hb dX5_wish_121 (by decide) ?_
                  refine lv_istore (lv' := [(5, .int 0), (0, .ref (a 0)), (1, .int wh), (2, .int i), (3, .int j), (4, .int d)]) hx hb dX5_wish_122 hl (by decide) rfl (fun ls hl => ?_)
                  have loop_124 : ∀ (nf : Nat) (k : Nat) (hnf : (4 - k) < nf) (hk : k ≤ 4), ∀ (H : Heap) (locs : List Loc) (ls : Array Slot), wW G A9 s9.heap (wMd G a (0, (m.2.1.1, m.2.1.2.1, m.2.1.2.2.1, m.2.1.2.2.2.1, (updN m.2.1.2.2.2.2.1 m.2.1.2.2.2.1 (iN wh)), (updN m.2.1.2.2.2.2.2.1 m.2.1.2.2.2.1 (iN i)), (updN m.2.1.2.2.2.2.2.2.1 m.2.1.2.2.2.1 (iN j)), (upd m.2.1.2.2.2.2.2.2.2 m.2.1.2.2.2.1 d)), (m.2.2.1.1, (mdTlK m.2.2.1.2 m.2.1.2.2.2.1 k)), m.2.2.2.1, m.2.2.2.2.1, m.2.2.2.2.2.1, m.2.2.2.2.2.2)) H locs → lv_has ls 6 [(0, .ref (a 0)), (1, .int wh), (2, .int i), (3, .int j), (4, .int d), (5, .int (nI k))] → W p9 l e9 ({ frames := 2, cells := 0, slots := 0, locals := 43 }) s9 m9 [.ref (a 0), .int wh, .int i, .int j, .int d].toArray be9 mt9 c9 H locs 0 0 (MQ be9 (va_Qi (fun (r9 : Int32) (_ : Unit) => r9 = ((mdWish m wh i j d).1)) (fun _ t9 => wPost G A9 (wMd G a ((mdWish m wh i j d).2)) t9) A9) [.ref (a 0), .int wh, .int i, .int j, .int d].toArray s9 0 0 A9) (F0 m9 124 ls []) := by
                    intro nf
                    induction nf with
                    | zero => intro k hnf hk; exact absurd hnf (Nat.not_lt_zero _)
                    | succ nf ih_124 =>
                      intro k hnf hk H locs ls hw hl
                      refine lv_iload hx hb dX5_wish_124 (lv_at hl 5 rfl) ?_
                      refine lv_iconst (v := 4) hx hb dX5_wish_126 (by decide) ?_
                      refine lv_icmp_ge (tgt := 152) hx hb dX5_wish_127 (by decide) (fun c_127 => ?_) (fun c_127 => ?_)
                      · have hx_127 : 4 ≤ k := ct_ge (k := k) (n := 4) (by omega) (by omega) c_127
                        refine lv_aload_n hx hb dX5_wish_152 rfl (lv_at hl 0 rfl) ?_
                        refine lv_dup hx hb dX5_wish_153 rfl ?_
                        refine r_get (ci := 5) (v := .int (nI m.2.1.2.2.2.1)) (C := RX5) (T := TX5) (N := 29) hx hb hts wiX5_wish_m_wish_X5 hown hK hw 0 rfl rfl 4 (by decide) wmX5_wish_m_wish_1 (fun _ h9 => h9) rfl dX5_wish_154 ?_
                        refine lv_iconst (v := 1) hx hb dX5_wish_157 (by decide) ?_
                        refine lv_iadd hx hb dX5_wish_158 ?_
                        refine r_top (y := nI (m.2.1.2.2.2.1 + 1)) (nI_add m.2.1.2.2.2.1 1) ?_
                        refine r_put (ci := 5) (v := .int (nI (m.2.1.2.2.2.1 + 1))) (ty := .int) (C := RX5) (T := TX5) (N := 29) hx hb hts wiX5_wish_m_wish_X5 tyX5 tyX5_ok nmX5 hown hK hw 0 rfl rfl 4 (by decide) wmX5_wish_m_wish_1 (fun _ h9 => h9) rfl (by decide +kernel) rfl rfl (Nat.le_of_ble_eq_true rfl) dX5_wish_159 (ws' := wMd G a (0, (m.2.1.1, m.2.1.2.1, m.2.1.2.2.1, m.2.1.2.2.2.1 + 1, (updN m.2.1.2.2.2.2.1 m.2.1.2.2.2.1 (iN wh)), (updN m.2.1.2.2.2.2.2.1 m.2.1.2.2.2.1 (iN i)), (updN m.2.1.2.2.2.2.2.2.1 m.2.1.2.2.2.1 (iN j)), (upd m.2.1.2.2.2.2.2.2.2 m.2.1.2.2.2.1 d)), (m.2.2.1.1, (mdTlK m.2.2.1.2 m.2.1.2.2.2.1 k)), m.2.2.2.1, m.2.2.2.2.1, m.2.2.2.2.2.1, m.2.2.2.2.2.2)) rfl (fun H locs hw => ?_)
                        refine lv_aload_n hx hb dX5_wish_162 rfl (lv_at hl 0 rfl) ?_
                        refine r_get (ci := 5) (v := .int (nI (m.2.1.2.2.2.1 + 1))) (C := RX5) (T := TX5) (N := 29) hx hb hts wiX5_wish_m_wish_X5 hown hK hw 0 rfl rfl 4 (by decide) wmX5_wish_m_wish_1 (fun _ h9 => h9) rfl dX5_wish_163 ?_
                        refine lv_iconst (v := 1) hx hb dX5_wish_166 (by decide) ?_
                        refine lv_isub hx hb dX5_wish_167 ?_
                        refine r_top (y := nI m.2.1.2.2.2.1) (nI_pred m.2.1.2.2.2.1) ?_
                        exact m_iret hx hb hr hlocks hK hw (Nat.le_of_ble_eq_true rfl) (Nat.le_of_ble_eq_true rfl) dX5_wish_168 (show (nI m.2.1.2.2.2.1 : Int32) = (mdWish m wh i j d).1 by simp only [mdWish, if_neg c_11, if_neg c_16, if_neg c_24, if_neg c_29, if_neg c_43, if_neg c_56, if_neg c_71]) (show wMd G a (0, (m.2.1.1, m.2.1.2.1, m.2.1.2.2.1, m.2.1.2.2.2.1 + 1, (updN m.2.1.2.2.2.2.1 m.2.1.2.2.2.1 (iN wh)), (updN m.2.1.2.2.2.2.2.1 m.2.1.2.2.2.1 (iN i)), (updN m.2.1.2.2.2.2.2.2.1 m.2.1.2.2.2.1 (iN j)), (upd m.2.1.2.2.2.2.2.2.2 m.2.1.2.2.2.1 d)), (m.2.2.1.1, (mdTlK m.2.2.1.2 m.2.1.2.2.2.1 k)), m.2.2.2.1, m.2.2.2.2.1, m.2.2.2.2.2.1, m.2.2.2.2.2.2) = wMd G a ((mdWish m wh i j d).2) by rw [show k = 4 by omega]; simp only [mdWish, if_neg c_11, if_neg c_16, if_neg c_24, if_neg c_29, if_neg c_43, if_neg c_56, if_neg c_71])
                      · have hc_127 : k < 4 := ct_nge (k := k) (n := 4) (by omega) (by omega) c_127
                        refine lv_aload_n hx hb dX5_wish_130 rfl (lv_at hl 0 rfl) ?_
                        refine r_get (ci := 5) (v := .ref (a 9)) (C := RX5) (T := TX5) (N := 29) hx hb hts wiX5_wish_m_wish_X5 hown hK hw 0 rfl rfl 11 (by decide) wmX5_wish_m_wish_6 (fun _ h9 => h9) rfl dX5_wish_131 ?_
                        refine lv_bipush (v := 40) hx hb dX5_wish_134 (by decide) ?_
                        refine lv_iload hx hb dX5_wish_136 (lv_at hl 5 rfl) ?_
                        refine lv_imul hx hb dX5_wish_138 ?_
                        refine r_top (y := nI (40 * k)) (pk_mul 40 k) ?_
                        refine lv_aload_n hx hb dX5_wish_139 rfl (lv_at hl 0 rfl) ?_
                        refine r_get (ci := 5) (v := .int (nI m.2.1.2.2.2.1)) (C := RX5) (T := TX5) (N := 29) hx hb hts wiX5_wish_m_wish_X5 hown hK hw 0 rfl rfl 4 (by decide) wmX5_wish_m_wish_1 (fun _ h9 => h9) rfl dX5_wish_140 ?_
                        refine lv_iadd hx hb dX5_wish_143 ?_
                        refine r_top (y := nI ((40 * k) + m.2.1.2.2.2.1)) (nI_add (40 * k) m.2.1.2.2.2.1) ?_
                        refine lv_iconst (v := 0) hx hb dX5_wish_144 (by decide) ?_
                        refine r_zast hx hb hK hw 9 rfl ((40 * k) + m.2.1.2.2.2.1) rfl (by omega) (by decide) (by rfl) dX5_wish_145 (ws' := wMd G a (0, (m.2.1.1, m.2.1.2.1, m.2.1.2.2.1, m.2.1.2.2.2.1, (updN m.2.1.2.2.2.2.1 m.2.1.2.2.2.1 (iN wh)), (updN m.2.1.2.2.2.2.2.1 m.2.1.2.2.2.1 (iN i)), (updN m.2.1.2.2.2.2.2.2.1 m.2.1.2.2.2.1 (iN j)), (upd m.2.1.2.2.2.2.2.2.2 m.2.1.2.2.2.1 d)), (m.2.2.1.1, (upd (mdTlK m.2.2.1.2 m.2.1.2.2.2.1 k) ((40 * k) + m.2.1.2.2.2.1) 0)), m.2.2.2.1, m.2.2.2.2.1, m.2.2.2.2.2.1, m.2.2.2.2.2.2)) rfl (fun H locs hw => ?_)
                        refine lv_iinc (v := nI (k + 1)) (lv' := [(5, .int (nI (k + 1))), (0, .ref (a 0)), (1, .int wh), (2, .int i), (3, .int j), (4, .int d)]) hx hb dX5_wish_146 hl (k := 5) rfl (nI_add k 1) (by decide) rfl (fun ls hl => ?_)
                        refine lv_goto (tgt := 124) hx hb dX5_wish_149 (by decide) ?_
                        exact ih_124 (k + 1) (by omega) (by first | assumption | omega | rfl) _ _ _ (wW.eq (show wMd G a (0, (m.2.1.1, m.2.1.2.1, m.2.1.2.2.1, m.2.1.2.2.2.1, (updN m.2.1.2.2.2.2.1 m.2.1.2.2.2.1 (iN wh)), (updN m.2.1.2.2.2.2.2.1 m.2.1.2.2.2.1 (iN i)), (updN m.2.1.2.2.2.2.2.2.1 m.2.1.2.2.2.1 (iN j)), (upd m.2.1.2.2.2.2.2.2.2 m.2.1.2.2.2.1 d)), (m.2.2.1.1, (upd (mdTlK m.2.2.1.2 m.2.1.2.2.2.1 k) ((40 * k) + m.2.1.2.2.2.1) 0)), m.2.2.2.1, m.2.2.2.2.1, m.2.2.2.2.2.1, m.2.2.2.2.2.2) = wMd G a (0, (m.2.1.1, m.2.1.2.1, m.2.1.2.2.1, m.2.1.2.2.2.1, (updN m.2.1.2.2.2.2.1 m.2.1.2.2.2.1 (iN wh)), (updN m.2.1.2.2.2.2.2.1 m.2.1.2.2.2.1 (iN i)), (updN m.2.1.2.2.2.2.2.2.1 m.2.1.2.2.2.1 (iN j)), (upd m.2.1.2.2.2.2.2.2.2 m.2.1.2.2.2.1 d)), (m.2.2.1.1, (mdTlK m.2.2.1.2 m.2.1.2.2.2.1 (k + 1))), m.2.2.2.1, m.2.2.2.2.1, m.2.2.2.2.2.1, m.2.2.2.2.2.2) from rfl) hw) (lv_sub hl [1, 2, 3, 4, 5, 0] rfl)
                  exact loop_124 ((4 - 0) + 1) 0 (Nat.lt_succ_self _) (by first | assumption | omega | rfl) _ _ _ (wW.eq (show wMd G a (0, (m.2.1.1, m.2.1.2.1, m.2.1.2.2.1, m.2.1.2.2.2.1, (updN m.2.1.2.2.2.2.1 m.2.1.2.2.2.1 (iN wh)), (updN m.2.1.2.2.2.2.2.1 m.2.1.2.2.2.1 (iN i)), (updN m.2.1.2.2.2.2.2.2.1 m.2.1.2.2.2.1 (iN j)), (upd m.2.1.2.2.2.2.2.2.2 m.2.1.2.2.2.1 d)), m.2.2.1, m.2.2.2.1, m.2.2.2.2.1, m.2.2.2.2.2.1, m.2.2.2.2.2.2) = wMd G a (0, (m.2.1.1, m.2.1.2.1, m.2.1.2.2.1, m.2.1.2.2.2.1, (updN m.2.1.2.2.2.2.1 m.2.1.2.2.2.1 (iN wh)), (updN m.2.1.2.2.2.2.2.1 m.2.1.2.2.2.1 (iN i)), (updN m.2.1.2.2.2.2.2.2.1 m.2.1.2.2.2.1 (iN j)), (upd m.2.1.2.2.2.2.2.2.2 m.2.1.2.2.2.1 d)), (m.2.2.1.1, (mdTlK m.2.2.1.2 m.2.1.2.2.2.1 0)), m.2.2.2.1, m.2.2.2.2.1, m.2.2.2.2.2.1, m.2.2.2.2.2.2) from rfl) hw) (lv_sub hl [1, 2, 3, 4, 5, 0] rfl)
                · refine lv_aload_n hx hb dX5_wish_74 rfl (lv_at hl 0 rfl) ?_
                  refine lv_iconst (v := 3) hx hb dX5_wish_75 (by decide) ?_
                  have hwc : wW G A9 s9.heap (([] : va_W) ++ ((wMd G a (0, m.2.1, m.2.2.1, m.2.2.2.1, m.2.2.2.2.1, m.2.2.2.2.2.1, m.2.2.2.2.2.2)) ++ ([] : va_W))) H locs := hw
                  refine r_calli (res := 0) (u := ([] : va_W)) (w := wMd G a (0, m.2.1, m.2.2.1, m.2.2.2.1, m.2.2.2.2.1, m.2.2.2.2.2.1, m.2.2.2.2.2.2)) (v := ([] : va_W)) (va_runV (As := [.int 3]) (rest := []) ⟨hx, hb, hml, hown, hts⟩ (c_refuses l G a (0, m.2.1, m.2.2.1, m.2.2.2.1, m.2.2.2.2.1, m.2.2.2.2.2.1, m.2.2.2.2.2.2) 3 H.size) (cwV 1 hts gX5_wish_X5_refuses rfl rfl rfl (by decide +kernel) ⟨Nat.le_of_ble_eq_true rfl, Nat.le_of_ble_eq_true rfl⟩) (r_preV (ci := 5) (q0 := 0) hK hwc rfl rfl rfl) rfl rfl hl.1 rfl (lv_room (Nat.le_of_ble_eq_true rfl)) dX5_wish_76 ⟨Nat.le_of_ble_eq_true rfl, Nat.le_of_ble_eq_true rfl⟩) hwc hA rfl rfl (fun H locs hw => ?_)
                  have hw : wW G A9 s9.heap (wMd G a (3, m.2.1, m.2.2.1, m.2.2.2.1, m.2.2.2.2.1, m.2.2.2.2.2.1, m.2.2.2.2.2.2)) H locs := hw
                  exact m_iret hx hb hr hlocks hK hw (Nat.le_of_ble_eq_true rfl) (Nat.le_of_ble_eq_true rfl) dX5_wish_79 (show (0 : Int32) = (mdWish m wh i j d).1 by first | rfl | (simp only [mdWish, if_neg c_11, if_neg c_16, if_neg c_24, if_neg c_29, if_neg c_43, if_neg c_48, if_neg c_56, if_pos c_71]; first | done | rfl)) (show wMd G a (3, m.2.1, m.2.2.1, m.2.2.2.1, m.2.2.2.2.1, m.2.2.2.2.2.1, m.2.2.2.2.2.2) = wMd G a ((mdWish m wh i j d).2) by first | rfl | (simp only [mdWish, if_neg c_11, if_neg c_16, if_neg c_24, if_neg c_29, if_neg c_43, if_neg c_48, if_neg c_56, if_pos c_71]; first | done | rfl))
              · refine lv_aload_n hx hb dX5_wish_59 rfl (lv_at hl 0 rfl) ?_
                refine lv_iconst (v := 2) hx hb dX5_wish_60 (by decide) ?_
                have hwc : wW G A9 s9.heap (([] : va_W) ++ ((wMd G a (0, m.2.1, m.2.2.1, m.2.2.2.1, m.2.2.2.2.1, m.2.2.2.2.2.1, m.2.2.2.2.2.2)) ++ ([] : va_W))) H locs := hw
                refine r_calli (res := 0) (u := ([] : va_W)) (w := wMd G a (0, m.2.1, m.2.2.1, m.2.2.2.1, m.2.2.2.2.1, m.2.2.2.2.2.1, m.2.2.2.2.2.2)) (v := ([] : va_W)) (va_runV (As := [.int 2]) (rest := []) ⟨hx, hb, hml, hown, hts⟩ (c_refuses l G a (0, m.2.1, m.2.2.1, m.2.2.2.1, m.2.2.2.2.1, m.2.2.2.2.2.1, m.2.2.2.2.2.2) 2 H.size) (cwV 1 hts gX5_wish_X5_refuses rfl rfl rfl (by decide +kernel) ⟨Nat.le_of_ble_eq_true rfl, Nat.le_of_ble_eq_true rfl⟩) (r_preV (ci := 5) (q0 := 0) hK hwc rfl rfl rfl) rfl rfl hl.1 rfl (lv_room (Nat.le_of_ble_eq_true rfl)) dX5_wish_61 ⟨Nat.le_of_ble_eq_true rfl, Nat.le_of_ble_eq_true rfl⟩) hwc hA rfl rfl (fun H locs hw => ?_)
                have hw : wW G A9 s9.heap (wMd G a (2, m.2.1, m.2.2.1, m.2.2.2.1, m.2.2.2.2.1, m.2.2.2.2.2.1, m.2.2.2.2.2.2)) H locs := hw
                exact m_iret hx hb hr hlocks hK hw (Nat.le_of_ble_eq_true rfl) (Nat.le_of_ble_eq_true rfl) dX5_wish_64 (show (0 : Int32) = (mdWish m wh i j d).1 by first | rfl | (simp only [mdWish, if_neg c_11, if_neg c_16, if_neg c_24, if_neg c_29, if_neg c_43, if_neg c_48, if_pos c_56]; first | done | rfl)) (show wMd G a (2, m.2.1, m.2.2.1, m.2.2.2.1, m.2.2.2.2.1, m.2.2.2.2.2.1, m.2.2.2.2.2.2) = wMd G a ((mdWish m wh i j d).2) by first | rfl | (simp only [mdWish, if_neg c_11, if_neg c_16, if_neg c_24, if_neg c_29, if_neg c_43, if_neg c_48, if_pos c_56]; first | done | rfl))
        · refine lv_aload_n hx hb dX5_wish_32 rfl (lv_at hl 0 rfl) ?_
          refine lv_iconst (v := 1) hx hb dX5_wish_33 (by decide) ?_
          have hwc : wW G A9 s9.heap (([] : va_W) ++ ((wMd G a (0, m.2.1, m.2.2.1, m.2.2.2.1, m.2.2.2.2.1, m.2.2.2.2.2.1, m.2.2.2.2.2.2)) ++ ([] : va_W))) H locs := hw
          refine r_calli (res := 0) (u := ([] : va_W)) (w := wMd G a (0, m.2.1, m.2.2.1, m.2.2.2.1, m.2.2.2.2.1, m.2.2.2.2.2.1, m.2.2.2.2.2.2)) (v := ([] : va_W)) (va_runV (As := [.int 1]) (rest := []) ⟨hx, hb, hml, hown, hts⟩ (c_refuses l G a (0, m.2.1, m.2.2.1, m.2.2.2.1, m.2.2.2.2.1, m.2.2.2.2.2.1, m.2.2.2.2.2.2) 1 H.size) (cwV 1 hts gX5_wish_X5_refuses rfl rfl rfl (by decide +kernel) ⟨Nat.le_of_ble_eq_true rfl, Nat.le_of_ble_eq_true rfl⟩) (r_preV (ci := 5) (q0 := 0) hK hwc rfl rfl rfl) rfl rfl hl.1 rfl (lv_room (Nat.le_of_ble_eq_true rfl)) dX5_wish_34 ⟨Nat.le_of_ble_eq_true rfl, Nat.le_of_ble_eq_true rfl⟩) hwc hA rfl rfl (fun H locs hw => ?_)
          have hw : wW G A9 s9.heap (wMd G a (1, m.2.1, m.2.2.1, m.2.2.2.1, m.2.2.2.2.1, m.2.2.2.2.2.1, m.2.2.2.2.2.2)) H locs := hw
          exact m_iret hx hb hr hlocks hK hw (Nat.le_of_ble_eq_true rfl) (Nat.le_of_ble_eq_true rfl) dX5_wish_37 (show (0 : Int32) = (mdWish m wh i j d).1 by first | rfl | (simp only [mdWish, if_neg c_11, if_neg c_16, if_neg c_24, if_pos c_29]; first | done | rfl)) (show wMd G a (1, m.2.1, m.2.2.1, m.2.2.2.1, m.2.2.2.2.1, m.2.2.2.2.2.1, m.2.2.2.2.2.2) = wMd G a ((mdWish m wh i j d).2) by first | rfl | (simp only [mdWish, if_neg c_11, if_neg c_16, if_neg c_24, if_pos c_29]; first | done | rfl))

theorem wiX5_remove_m_remove_X5 : ∀ w ∈ wsX50, w ∈ wsX5_remove := by decide +kernel
theorem wmX5_remove_m_remove_0 : Cond.fieldLink RX5 74 "PartSketchModel" "thrown" "I" ∈ wsX5_remove := by decide +kernel
theorem wmX5_remove_m_remove_1 : Cond.fieldLink RX5 28 "PartSketchModel" "state" "[I" ∈ wsX5_remove := by decide +kernel
theorem wmX5_remove_m_remove_2 : Cond.fieldLink RX5 85 "PartSketchModel" "wishes" "I" ∈ wsX5_remove := by decide +kernel
theorem wmX5_remove_m_remove_3 : Cond.fieldLink RX5 16 "PartSketchModel" "kind" "[I" ∈ wsX5_remove := by decide +kernel
theorem wmX5_remove_m_remove_4 : Cond.fieldLink RX5 19 "PartSketchModel" "one" "[I" ∈ wsX5_remove := by decide +kernel
theorem wmX5_remove_m_remove_5 : Cond.fieldLink RX5 22 "PartSketchModel" "other" "[I" ∈ wsX5_remove := by decide +kernel
theorem wmX5_remove_m_remove_6 : Cond.fieldLink RX5 25 "PartSketchModel" "size" "[I" ∈ wsX5_remove := by decide +kernel
theorem wmX5_remove_m_remove_7 : Cond.fieldLink RX5 31 "PartSketchModel" "sizes" "[I" ∈ wsX5_remove := by decide +kernel
theorem wmX5_remove_m_remove_8 : Cond.fieldLink RX5 34 "PartSketchModel" "tells" "[Z" ∈ wsX5_remove := by decide +kernel
set_option maxHeartbeats 4000000 in
set_option maxRecDepth 100000 in
/-- remove -/
theorem c_m_remove (l : Launch) (G : gT) (a : aMd) (m : tMd) (w : Int32) (hok : mdOk m.2.1) (htl : mdTl01 m.2.2.1) (sz : Nat) : MI l yX5_remove wsX5_remove ({ frames := 2, cells := 0, slots := 0, locals := 53 }) G [.ref (a 0), .int w] (wMd G a m) (wMd G a ((mdRemove m w).2)) sz ((mdRemove m w).1) 0 0 := by
  refine m_of (Qc := fun A9 => (va_Qi (fun (r9 : Int32) (_ : Unit) => r9 = ((mdRemove m w).1)) (fun _ t9 => wPost G A9 (wMd G a ((mdRemove m w).2)) t9) A9)) (cc := cX5_remove) (maxL := 5) (ret := (some .int)) (by decide) rfl (Nat.le_of_ble_eq_true rfl) ?_
  intro p9 e9 s9 m9 A9 be9 mt9 c9 H locs ls hx hb hr hts hown hlocks hin hml hK hA hw hl
  have hl : lv_has ls 5 [(0, .ref (a 0)), (1, .int w)] := hl
  refine lv_aload_n hx hb dX5_remove_0 rfl (lv_at hl 0 rfl) ?_
  refine lv_iconst (v := 0) hx hb dX5_remove_1 (by decide) ?_
  refine r_put (ci := 5) (v := .int 0) (ty := .int) (C := RX5) (T := TX5) (N := 29) hx hb hts wiX5_remove_m_remove_X5 tyX5 tyX5_ok nmX5 hown hK hw 0 rfl rfl 0 (by decide) wmX5_remove_m_remove_0 (fun _ h9 => h9) rfl (by decide +kernel) rfl rfl (Nat.le_of_ble_eq_true rfl) dX5_remove_2 (ws' := wMd G a (0, m.2.1, m.2.2.1, m.2.2.2.1, m.2.2.2.2.1, m.2.2.2.2.2.1, m.2.2.2.2.2.2)) rfl (fun H locs hw => ?_)
  refine lv_aload_n hx hb dX5_remove_5 rfl (lv_at hl 0 rfl) ?_
  refine lv_iload_n hx hb dX5_remove_6 rfl (lv_at hl 1 rfl) ?_
  have hwc : wW G A9 s9.heap (([] : va_W) ++ ((wMd G a (0, m.2.1, m.2.2.1, m.2.2.2.1, m.2.2.2.2.1, m.2.2.2.2.2.1, m.2.2.2.2.2.2)) ++ ([] : va_W))) H locs := hw
  refine r_calli (res := (mdIn w 0 (nI m.2.1.2.2.2.1 - 1))) (u := ([] : va_W)) (w := wMd G a (0, m.2.1, m.2.2.1, m.2.2.2.1, m.2.2.2.2.1, m.2.2.2.2.2.1, m.2.2.2.2.2.2)) (v := ([] : va_W)) (va_runV (As := [.int w]) (rest := []) ⟨hx, hb, hml, hown, hts⟩ (c_iswish l G a (0, m.2.1, m.2.2.1, m.2.2.2.1, m.2.2.2.2.1, m.2.2.2.2.2.1, m.2.2.2.2.2.2) w H.size) (cwV 1 hts gX5_remove_X5_isWish rfl rfl rfl (by decide +kernel) ⟨Nat.le_of_ble_eq_true rfl, Nat.le_of_ble_eq_true rfl⟩) (r_preV (ci := 5) (q0 := 0) hK hwc rfl rfl rfl) rfl rfl hl.1 rfl (lv_room (Nat.le_of_ble_eq_true rfl)) dX5_remove_7 ⟨Nat.le_of_ble_eq_true rfl, Nat.le_of_ble_eq_true rfl⟩) hwc hA rfl rfl (fun H locs hw => ?_)
  have hw : wW G A9 s9.heap (wMd G a (0, m.2.1, m.2.2.1, m.2.2.2.1, m.2.2.2.2.1, m.2.2.2.2.2.1, m.2.2.2.2.2.2)) H locs := hw
  refine lv_if_ne (tgt := 19) hx hb dX5_remove_10 (by decide) (fun c_10 => ?_) (fun c_10 => ?_)
  · have hwl : iN w < m.2.1.2.2.2.1 := mdIn_lt (Nat.le_trans hok.2.1 (by omega)) c_10
    have hnw : m.2.1.2.2.2.1 ≤ 40 := hok.2.1
    refine lv_aload_n hx hb dX5_remove_19 rfl (lv_at hl 0 rfl) ?_
    have hwc : wW G A9 s9.heap (([] : va_W) ++ ((wMd G a (0, m.2.1, m.2.2.1, m.2.2.2.1, m.2.2.2.2.1, m.2.2.2.2.2.1, m.2.2.2.2.2.2)) ++ ([] : va_W))) H locs := hw
    refine r_callv (u := ([] : va_W)) (w := wMd G a (0, m.2.1, m.2.2.1, m.2.2.2.1, m.2.2.2.2.1, m.2.2.2.2.2.1, m.2.2.2.2.2.2)) (v := ([] : va_W)) (va_runV (As := []) (rest := []) ⟨hx, hb, hml, hown, hts⟩ (c_solves l G a (0, m.2.1, m.2.2.1, m.2.2.2.1, m.2.2.2.2.1, m.2.2.2.2.2.1, m.2.2.2.2.2.2) (by first | assumption | omega | decide) H.size) (cwV 0 hts gX5_remove_X5_solves rfl rfl rfl (by decide +kernel) ⟨Nat.le_of_ble_eq_true rfl, Nat.le_of_ble_eq_true rfl⟩) (r_preV (ci := 5) (q0 := 0) hK hwc rfl rfl rfl) rfl rfl hl.1 rfl (lv_room (Nat.le_of_ble_eq_true rfl)) dX5_remove_20 ⟨Nat.le_of_ble_eq_true rfl, Nat.le_of_ble_eq_true rfl⟩) hwc hA rfl rfl (fun H locs hw => ?_)
    have hw : wW G A9 s9.heap (wMd G a (0, m.2.1, m.2.2.1, (mdSolve m.2.1 m.2.2.2.1), m.2.2.2.2.1, m.2.2.2.2.2.1, m.2.2.2.2.2.2)) H locs := hw
    refine lv_aload_n hx hb dX5_remove_23 rfl (lv_at hl 0 rfl) ?_
    refine r_get (ci := 5) (v := .ref (a 7)) (C := RX5) (T := TX5) (N := 29) hx hb hts wiX5_remove_m_remove_X5 hown hK hw 0 rfl rfl 9 (by decide) wmX5_remove_m_remove_1 (fun _ h9 => h9) rfl dX5_remove_24 ?_
    refine lv_iload_n hx hb dX5_remove_27 rfl (lv_at hl 1 rfl) ?_
    refine r_iald (v := ((mdSolve m.2.1 m.2.2.2.1).1) (iN w)) hx hb hK hw 7 rfl (iN w) (nI_iN w) (by omega) (by decide) rfl dX5_remove_28 ?_
    refine lv_istore_n (lv' := [(2, .int (((mdSolve m.2.1 m.2.2.2.1).1) (iN w))), (0, .ref (a 0)), (1, .int w)]) hx hb dX5_remove_29 rfl hl (by decide) rfl (fun ls hl => ?_)
    refine lv_iload_n hx hb dX5_remove_30 rfl (lv_at hl 2 rfl) ?_
    refine r_top (y := nI (iN w)) (nI_iN w) ?_
    refine lv_istore_n (lv' := [(3, .int (nI (iN w))), (2, .int (((mdSolve m.2.1 m.2.2.2.1).1) (iN w))), (0, .ref (a 0)), (1, .int w)]) hx hb dX5_remove_31 rfl hl (by decide) rfl (fun ls hl => ?_)
    have loop_32 : ∀ (nf : Nat) (j : Nat) (hnf : (m.2.1.2.2.2.1 - 1 - (iN w + j)) < nf) (hj : iN w + j ≤ m.2.1.2.2.2.1 - 1), ∀ (H : Heap) (locs : List Loc) (ls : Array Slot), wW G A9 s9.heap (wMd G a (0, (mdRmK m.2.1 m.2.2.1 (iN w) j).1, (mdRmK m.2.1 m.2.2.1 (iN w) j).2, (mdSolve m.2.1 m.2.2.2.1), m.2.2.2.2.1, m.2.2.2.2.2.1, m.2.2.2.2.2.2)) H locs → lv_has ls 5 [(0, .ref (a 0)), (1, .int w), (2, .int (((mdSolve m.2.1 m.2.2.2.1).1) (iN w))), (3, .int (nI (iN w + j)))] → W p9 l e9 ({ frames := 2, cells := 0, slots := 0, locals := 53 }) s9 m9 [.ref (a 0), .int w].toArray be9 mt9 c9 H locs 0 0 (MQ be9 (va_Qi (fun (r9 : Int32) (_ : Unit) => r9 = ((mdRemove m w).1)) (fun _ t9 => wPost G A9 (wMd G a ((mdRemove m w).2)) t9) A9) [.ref (a 0), .int w].toArray s9 0 0 A9) (F0 m9 32 ls []) := by
      intro nf
      induction nf with
      | zero => intro j hnf hj; exact absurd hnf (Nat.not_lt_zero _)
      | succ nf ih_32 =>
        intro j hnf hj H locs ls hw hl
        have hsk := mdRmK_s m.2.1 m.2.2.1 (iN w) j
        have hsn := hsk.2.2.2
        refine lv_iload_n hx hb dX5_remove_32 rfl (lv_at hl 3 rfl) ?_
        refine lv_aload_n hx hb dX5_remove_33 rfl (lv_at hl 0 rfl) ?_
        refine r_get (ci := 5) (v := .int (nI ((mdRmK m.2.1 m.2.2.1 (iN w) j).1.2.2.2.1))) (C := RX5) (T := TX5) (N := 29) hx hb hts wiX5_remove_m_remove_X5 hown hK hw 0 rfl rfl 4 (by decide) wmX5_remove_m_remove_2 (fun _ h9 => h9) rfl dX5_remove_34 ?_
        refine lv_iconst (v := 1) hx hb dX5_remove_37 (by decide) ?_
        refine lv_isub hx hb dX5_remove_38 ?_
        refine r_top (y := nI ((mdRmK m.2.1 m.2.2.1 (iN w) j).1.2.2.2.1 - 1)) (pk_sub (a := (mdRmK m.2.1 m.2.2.1 (iN w) j).1.2.2.2.1) (b := 1) (by omega)) ?_
        refine lv_icmp_ge (tgt := 153) hx hb dX5_remove_39 (by decide) (fun c_39 => ?_) (fun c_39 => ?_)
        · have hx_39 : (mdRmK m.2.1 m.2.2.1 (iN w) j).1.2.2.2.1 - 1 ≤ iN w + j := ct_ge (k := iN w + j) (n := (mdRmK m.2.1 m.2.2.1 (iN w) j).1.2.2.2.1 - 1) (by omega) (by omega) c_39
          refine lv_aload_n hx hb dX5_remove_153 rfl (lv_at hl 0 rfl) ?_
          refine lv_dup hx hb dX5_remove_154 rfl ?_
          refine r_get (ci := 5) (v := .int (nI ((mdRmK m.2.1 m.2.2.1 (iN w) j).1.2.2.2.1))) (C := RX5) (T := TX5) (N := 29) hx hb hts wiX5_remove_m_remove_X5 hown hK hw 0 rfl rfl 4 (by decide) wmX5_remove_m_remove_2 (fun _ h9 => h9) rfl dX5_remove_155 ?_
          refine lv_iconst (v := 1) hx hb dX5_remove_158 (by decide) ?_
          refine lv_isub hx hb dX5_remove_159 ?_
          refine r_top (y := nI ((mdRmK m.2.1 m.2.2.1 (iN w) j).1.2.2.2.1 - 1)) (pk_sub (a := (mdRmK m.2.1 m.2.2.1 (iN w) j).1.2.2.2.1) (b := 1) (by omega)) ?_
          refine r_put (ci := 5) (v := .int (nI ((mdRmK m.2.1 m.2.2.1 (iN w) j).1.2.2.2.1 - 1))) (ty := .int) (C := RX5) (T := TX5) (N := 29) hx hb hts wiX5_remove_m_remove_X5 tyX5 tyX5_ok nmX5 hown hK hw 0 rfl rfl 4 (by decide) wmX5_remove_m_remove_2 (fun _ h9 => h9) rfl (by decide +kernel) rfl rfl (Nat.le_of_ble_eq_true rfl) dX5_remove_160 (ws' := wMd G a (0, ((mdRmK m.2.1 m.2.2.1 (iN w) j).1.1, (mdRmK m.2.1 m.2.2.1 (iN w) j).1.2.1, (mdRmK m.2.1 m.2.2.1 (iN w) j).1.2.2.1, (mdRmK m.2.1 m.2.2.1 (iN w) j).1.2.2.2.1 - 1, (mdRmK m.2.1 m.2.2.1 (iN w) j).1.2.2.2.2.1, (mdRmK m.2.1 m.2.2.1 (iN w) j).1.2.2.2.2.2.1, (mdRmK m.2.1 m.2.2.1 (iN w) j).1.2.2.2.2.2.2.1, (mdRmK m.2.1 m.2.2.1 (iN w) j).1.2.2.2.2.2.2.2), (mdRmK m.2.1 m.2.2.1 (iN w) j).2, (mdSolve m.2.1 m.2.2.2.1), m.2.2.2.2.1, m.2.2.2.2.2.1, m.2.2.2.2.2.2)) rfl (fun H locs hw => ?_)
          refine lv_iload_n hx hb dX5_remove_163 rfl (lv_at hl 2 rfl) ?_
          exact m_iret hx hb hr hlocks hK hw (Nat.le_of_ble_eq_true rfl) (Nat.le_of_ble_eq_true rfl) dX5_remove_164 (show (((mdSolve m.2.1 m.2.2.2.1).1) (iN w) : Int32) = (mdRemove m w).1 by simp only [mdRemove, if_neg c_10]) (show wMd G a (0, ((mdRmK m.2.1 m.2.2.1 (iN w) j).1.1, (mdRmK m.2.1 m.2.2.1 (iN w) j).1.2.1, (mdRmK m.2.1 m.2.2.1 (iN w) j).1.2.2.1, (mdRmK m.2.1 m.2.2.1 (iN w) j).1.2.2.2.1 - 1, (mdRmK m.2.1 m.2.2.1 (iN w) j).1.2.2.2.2.1, (mdRmK m.2.1 m.2.2.1 (iN w) j).1.2.2.2.2.2.1, (mdRmK m.2.1 m.2.2.1 (iN w) j).1.2.2.2.2.2.2.1, (mdRmK m.2.1 m.2.2.1 (iN w) j).1.2.2.2.2.2.2.2), (mdRmK m.2.1 m.2.2.1 (iN w) j).2, (mdSolve m.2.1 m.2.2.2.1), m.2.2.2.2.1, m.2.2.2.2.2.1, m.2.2.2.2.2.2) = wMd G a ((mdRemove m w).2) by simp only [mdRemove, if_neg c_10]; unfold mdRm; rw [show j = m.2.1.2.2.2.1 - 1 - iN w by omega]; first | done | rfl)
        · have hc_39 : iN w + j < (mdRmK m.2.1 m.2.2.1 (iN w) j).1.2.2.2.1 - 1 := ct_nge (k := iN w + j) (n := (mdRmK m.2.1 m.2.2.1 (iN w) j).1.2.2.2.1 - 1) (by omega) (by omega) c_39
          refine lv_aload_n hx hb dX5_remove_42 rfl (lv_at hl 0 rfl) ?_
          refine r_get (ci := 5) (v := .ref (a 3)) (C := RX5) (T := TX5) (N := 29) hx hb hts wiX5_remove_m_remove_X5 hown hK hw 0 rfl rfl 5 (by decide) wmX5_remove_m_remove_3 (fun _ h9 => h9) rfl dX5_remove_43 ?_
          refine lv_iload_n hx hb dX5_remove_46 rfl (lv_at hl 3 rfl) ?_
          refine lv_aload_n hx hb dX5_remove_47 rfl (lv_at hl 0 rfl) ?_
          refine r_get (ci := 5) (v := .ref (a 3)) (C := RX5) (T := TX5) (N := 29) hx hb hts wiX5_remove_m_remove_X5 hown hK hw 0 rfl rfl 5 (by decide) wmX5_remove_m_remove_3 (fun _ h9 => h9) rfl dX5_remove_48 ?_
          refine lv_iload_n hx hb dX5_remove_51 rfl (lv_at hl 3 rfl) ?_
          refine lv_iconst (v := 1) hx hb dX5_remove_52 (by decide) ?_
          refine lv_iadd hx hb dX5_remove_53 ?_
          refine r_top (y := nI ((iN w + j) + 1)) (nI_add (iN w + j) 1) ?_
          refine r_iald (v := nI (((mdRmK m.2.1 m.2.2.1 (iN w) j).1.2.2.2.2.1) ((iN w + j) + 1))) hx hb hK hw 3 rfl ((iN w + j) + 1) rfl (by omega) (by decide) rfl dX5_remove_54 ?_
          refine r_iast hx hb hK hw 3 rfl (iN w + j) rfl (by omega) (by decide) dX5_remove_55 (ws' := wMd G a (0, ((mdRmK m.2.1 m.2.2.1 (iN w) j).1.1, (mdRmK m.2.1 m.2.2.1 (iN w) j).1.2.1, (mdRmK m.2.1 m.2.2.1 (iN w) j).1.2.2.1, (mdRmK m.2.1 m.2.2.1 (iN w) j).1.2.2.2.1, (updN ((mdRmK m.2.1 m.2.2.1 (iN w) j).1.2.2.2.2.1) (iN w + j) (((mdRmK m.2.1 m.2.2.1 (iN w) j).1.2.2.2.2.1) ((iN w + j) + 1))), (mdRmK m.2.1 m.2.2.1 (iN w) j).1.2.2.2.2.2.1, (mdRmK m.2.1 m.2.2.1 (iN w) j).1.2.2.2.2.2.2.1, (mdRmK m.2.1 m.2.2.1 (iN w) j).1.2.2.2.2.2.2.2), (mdRmK m.2.1 m.2.2.1 (iN w) j).2, (mdSolve m.2.1 m.2.2.2.1), m.2.2.2.2.1, m.2.2.2.2.2.1, m.2.2.2.2.2.2)) (by rw [upd_nI]; rfl) (fun H locs hw => ?_)
          refine lv_aload_n hx hb dX5_remove_56 rfl (lv_at hl 0 rfl) ?_
          refine r_get (ci := 5) (v := .ref (a 4)) (C := RX5) (T := TX5) (N := 29) hx hb hts wiX5_remove_m_remove_X5 hown hK hw 0 rfl rfl 6 (by decide) wmX5_remove_m_remove_4 (fun _ h9 => h9) rfl dX5_remove_57 ?_
          refine lv_iload_n hx hb dX5_remove_60 rfl (lv_at hl 3 rfl) ?_
          refine lv_aload_n hx hb dX5_remove_61 rfl (lv_at hl 0 rfl) ?_
          refine r_get (ci := 5) (v := .ref (a 4)) (C := RX5) (T := TX5) (N := 29) hx hb hts wiX5_remove_m_remove_X5 hown hK hw 0 rfl rfl 6 (by decide) wmX5_remove_m_remove_4 (fun _ h9 => h9) rfl dX5_remove_62 ?_
          refine lv_iload_n hx hb dX5_remove_65 rfl (lv_at hl 3 rfl) ?_
          refine lv_iconst (v := 1) hx hb dX5_remove_66 (by decide) ?_
          refine lv_iadd hx hb dX5_remove_67 ?_
          refine r_top (y := nI ((iN w + j) + 1)) (nI_add (iN w + j) 1) ?_
          refine r_iald (v := nI (((mdRmK m.2.1 m.2.2.1 (iN w) j).1.2.2.2.2.2.1) ((iN w + j) + 1))) hx hb hK hw 4 rfl ((iN w + j) + 1) rfl (by omega) (by decide) rfl dX5_remove_68 ?_
          refine r_iast hx hb hK hw 4 rfl (iN w + j) rfl (by omega) (by decide) dX5_remove_69 (ws' := wMd G a (0, ((mdRmK m.2.1 m.2.2.1 (iN w) j).1.1, (mdRmK m.2.1 m.2.2.1 (iN w) j).1.2.1, (mdRmK m.2.1 m.2.2.1 (iN w) j).1.2.2.1, (mdRmK m.2.1 m.2.2.1 (iN w) j).1.2.2.2.1, (updN ((mdRmK m.2.1 m.2.2.1 (iN w) j).1.2.2.2.2.1) (iN w + j) (((mdRmK m.2.1 m.2.2.1 (iN w) j).1.2.2.2.2.1) ((iN w + j) + 1))), (updN ((mdRmK m.2.1 m.2.2.1 (iN w) j).1.2.2.2.2.2.1) (iN w + j) (((mdRmK m.2.1 m.2.2.1 (iN w) j).1.2.2.2.2.2.1) ((iN w + j) + 1))), (mdRmK m.2.1 m.2.2.1 (iN w) j).1.2.2.2.2.2.2.1, (mdRmK m.2.1 m.2.2.1 (iN w) j).1.2.2.2.2.2.2.2), (mdRmK m.2.1 m.2.2.1 (iN w) j).2, (mdSolve m.2.1 m.2.2.2.1), m.2.2.2.2.1, m.2.2.2.2.2.1, m.2.2.2.2.2.2)) (by rw [upd_nI]; rfl) (fun H locs hw => ?_)
          refine lv_aload_n hx hb dX5_remove_70 rfl (lv_at hl 0 rfl) ?_
          refine r_get (ci := 5) (v := .ref (a 5)) (C := RX5) (T := TX5) (N := 29) hx hb hts wiX5_remove_m_remove_X5 hown hK hw 0 rfl rfl 7 (by decide) wmX5_remove_m_remove_5 (fun _ h9 => h9) rfl dX5_remove_71 ?_
          refine lv_iload_n hx hb dX5_remove_74 rfl (lv_at hl 3 rfl) ?_
          refine lv_aload_n hx hb dX5_remove_75 rfl (lv_at hl 0 rfl) ?_
          refine r_get (ci := 5) (v := .ref (a 5)) (C := RX5) (T := TX5) (N := 29) hx hb hts wiX5_remove_m_remove_X5 hown hK hw 0 rfl rfl 7 (by decide) wmX5_remove_m_remove_5 (fun _ h9 => h9) rfl dX5_remove_76 ?_
          refine lv_iload_n hx hb dX5_remove_79 rfl (lv_at hl 3 rfl) ?_
          refine lv_iconst (v := 1) hx hb dX5_remove_80 (by decide) ?_
          refine lv_iadd hx hb dX5_remove_81 ?_
          refine r_top (y := nI ((iN w + j) + 1)) (nI_add (iN w + j) 1) ?_
          refine r_iald (v := nI (((mdRmK m.2.1 m.2.2.1 (iN w) j).1.2.2.2.2.2.2.1) ((iN w + j) + 1))) hx hb hK hw 5 rfl ((iN w + j) + 1) rfl (by omega) (by decide) rfl dX5_remove_82 ?_
          refine r_iast hx hb hK hw 5 rfl (iN w + j) rfl (by omega) (by decide) dX5_remove_83 (ws' := wMd G a (0, ((mdRmK m.2.1 m.2.2.1 (iN w) j).1.1, (mdRmK m.2.1 m.2.2.1 (iN w) j).1.2.1, (mdRmK m.2.1 m.2.2.1 (iN w) j).1.2.2.1, (mdRmK m.2.1 m.2.2.1 (iN w) j).1.2.2.2.1, (updN ((mdRmK m.2.1 m.2.2.1 (iN w) j).1.2.2.2.2.1) (iN w + j) (((mdRmK m.2.1 m.2.2.1 (iN w) j).1.2.2.2.2.1) ((iN w + j) + 1))), (updN ((mdRmK m.2.1 m.2.2.1 (iN w) j).1.2.2.2.2.2.1) (iN w + j) (((mdRmK m.2.1 m.2.2.1 (iN w) j).1.2.2.2.2.2.1) ((iN w + j) + 1))), (updN ((mdRmK m.2.1 m.2.2.1 (iN w) j).1.2.2.2.2.2.2.1) (iN w + j) (((mdRmK m.2.1 m.2.2.1 (iN w) j).1.2.2.2.2.2.2.1) ((iN w + j) + 1))), (mdRmK m.2.1 m.2.2.1 (iN w) j).1.2.2.2.2.2.2.2), (mdRmK m.2.1 m.2.2.1 (iN w) j).2, (mdSolve m.2.1 m.2.2.2.1), m.2.2.2.2.1, m.2.2.2.2.2.1, m.2.2.2.2.2.2)) (by rw [upd_nI]; rfl) (fun H locs hw => ?_)
          refine lv_aload_n hx hb dX5_remove_84 rfl (lv_at hl 0 rfl) ?_
          refine r_get (ci := 5) (v := .ref (a 6)) (C := RX5) (T := TX5) (N := 29) hx hb hts wiX5_remove_m_remove_X5 hown hK hw 0 rfl rfl 8 (by decide) wmX5_remove_m_remove_6 (fun _ h9 => h9) rfl dX5_remove_85 ?_
          refine lv_iload_n hx hb dX5_remove_88 rfl (lv_at hl 3 rfl) ?_
          refine lv_aload_n hx hb dX5_remove_89 rfl (lv_at hl 0 rfl) ?_
          refine r_get (ci := 5) (v := .ref (a 6)) (C := RX5) (T := TX5) (N := 29) hx hb hts wiX5_remove_m_remove_X5 hown hK hw 0 rfl rfl 8 (by decide) wmX5_remove_m_remove_6 (fun _ h9 => h9) rfl dX5_remove_90 ?_
          refine lv_iload_n hx hb dX5_remove_93 rfl (lv_at hl 3 rfl) ?_
          refine lv_iconst (v := 1) hx hb dX5_remove_94 (by decide) ?_
          refine lv_iadd hx hb dX5_remove_95 ?_
          refine r_top (y := nI ((iN w + j) + 1)) (nI_add (iN w + j) 1) ?_
          refine r_iald (v := ((mdRmK m.2.1 m.2.2.1 (iN w) j).1.2.2.2.2.2.2.2) ((iN w + j) + 1)) hx hb hK hw 6 rfl ((iN w + j) + 1) rfl (by omega) (by decide) rfl dX5_remove_96 ?_
          refine r_iast hx hb hK hw 6 rfl (iN w + j) rfl (by omega) (by decide) dX5_remove_97 (ws' := wMd G a (0, ((mdRmK m.2.1 m.2.2.1 (iN w) j).1.1, (mdRmK m.2.1 m.2.2.1 (iN w) j).1.2.1, (mdRmK m.2.1 m.2.2.1 (iN w) j).1.2.2.1, (mdRmK m.2.1 m.2.2.1 (iN w) j).1.2.2.2.1, (updN ((mdRmK m.2.1 m.2.2.1 (iN w) j).1.2.2.2.2.1) (iN w + j) (((mdRmK m.2.1 m.2.2.1 (iN w) j).1.2.2.2.2.1) ((iN w + j) + 1))), (updN ((mdRmK m.2.1 m.2.2.1 (iN w) j).1.2.2.2.2.2.1) (iN w + j) (((mdRmK m.2.1 m.2.2.1 (iN w) j).1.2.2.2.2.2.1) ((iN w + j) + 1))), (updN ((mdRmK m.2.1 m.2.2.1 (iN w) j).1.2.2.2.2.2.2.1) (iN w + j) (((mdRmK m.2.1 m.2.2.1 (iN w) j).1.2.2.2.2.2.2.1) ((iN w + j) + 1))), (upd ((mdRmK m.2.1 m.2.2.1 (iN w) j).1.2.2.2.2.2.2.2) (iN w + j) (((mdRmK m.2.1 m.2.2.1 (iN w) j).1.2.2.2.2.2.2.2) ((iN w + j) + 1)))), (mdRmK m.2.1 m.2.2.1 (iN w) j).2, (mdSolve m.2.1 m.2.2.2.1), m.2.2.2.2.1, m.2.2.2.2.2.1, m.2.2.2.2.2.2)) rfl (fun H locs hw => ?_)
          refine lv_iload_n hx hb dX5_remove_98 rfl (lv_at hl 3 rfl) ?_
          refine lv_istore (lv' := [(4, .int (nI (iN w + j))), (0, .ref (a 0)), (1, .int w), (2, .int (((mdSolve m.2.1 m.2.2.2.1).1) (iN w))), (3, .int (nI (iN w + j)))]) hx hb dX5_remove_99 hl (by decide) rfl (fun ls hl => ?_)
          have loop_101 : ∀ (nf : Nat) (v : Nat) (hnf : (4 - v) < nf) (hv : v ≤ 4), ∀ (H : Heap) (locs : List Loc) (ls : Array Slot), wW G A9 s9.heap (wMd G a (0, ((mdRmK m.2.1 m.2.2.1 (iN w) j).1.1, (mdRmK m.2.1 m.2.2.1 (iN w) j).1.2.1, (mdRmK m.2.1 m.2.2.1 (iN w) j).1.2.2.1, (mdRmK m.2.1 m.2.2.1 (iN w) j).1.2.2.2.1, (updN ((mdRmK m.2.1 m.2.2.1 (iN w) j).1.2.2.2.2.1) (iN w + j) (((mdRmK m.2.1 m.2.2.1 (iN w) j).1.2.2.2.2.1) ((iN w + j) + 1))), (updN ((mdRmK m.2.1 m.2.2.1 (iN w) j).1.2.2.2.2.2.1) (iN w + j) (((mdRmK m.2.1 m.2.2.1 (iN w) j).1.2.2.2.2.2.1) ((iN w + j) + 1))), (updN ((mdRmK m.2.1 m.2.2.1 (iN w) j).1.2.2.2.2.2.2.1) (iN w + j) (((mdRmK m.2.1 m.2.2.1 (iN w) j).1.2.2.2.2.2.2.1) ((iN w + j) + 1))), (upd ((mdRmK m.2.1 m.2.2.1 (iN w) j).1.2.2.2.2.2.2.2) (iN w + j) (((mdRmK m.2.1 m.2.2.1 (iN w) j).1.2.2.2.2.2.2.2) ((iN w + j) + 1)))), (mdRmT (mdRmK m.2.1 m.2.2.1 (iN w) j).2 (iN w + j) v), (mdSolve m.2.1 m.2.2.2.1), m.2.2.2.2.1, m.2.2.2.2.2.1, m.2.2.2.2.2.2)) H locs → lv_has ls 5 [(0, .ref (a 0)), (1, .int w), (2, .int (((mdSolve m.2.1 m.2.2.2.1).1) (iN w))), (3, .int (nI (iN w + j))), (4, .int (nI (iN w + j + 40 * v)))] → W p9 l e9 ({ frames := 2, cells := 0, slots := 0, locals := 53 }) s9 m9 [.ref (a 0), .int w].toArray be9 mt9 c9 H locs 0 0 (MQ be9 (va_Qi (fun (r9 : Int32) (_ : Unit) => r9 = ((mdRemove m w).1)) (fun _ t9 => wPost G A9 (wMd G a ((mdRemove m w).2)) t9) A9) [.ref (a 0), .int w].toArray s9 0 0 A9) (F0 m9 101 ls []) := by
            intro nf
            induction nf with
            | zero => intro v hnf hv; exact absurd hnf (Nat.not_lt_zero _)
            | succ nf ih_101 =>
              intro v hnf hv H locs ls hw hl
              refine lv_iload hx hb dX5_remove_101 (lv_at hl 4 rfl) ?_
              refine lv_sipush (v := 160) hx hb dX5_remove_103 (by decide) ?_
              refine lv_icmp_ge (tgt := 147) hx hb dX5_remove_106 (by decide) (fun c_106 => ?_) (fun c_106 => ?_)
              · have hx_106 : 160 ≤ iN w + j + 40 * v := ct_ge (k := iN w + j + 40 * v) (n := 160) (by omega) (by omega) c_106
                refine lv_iinc (v := nI ((iN w + j) + 1)) (lv' := [(3, .int (nI ((iN w + j) + 1))), (0, .ref (a 0)), (1, .int w), (2, .int (((mdSolve m.2.1 m.2.2.2.1).1) (iN w))), (4, .int (nI (iN w + j + 40 * v)))]) hx hb dX5_remove_147 hl (k := 3) rfl (nI_add (iN w + j) 1) (by decide) rfl (fun ls hl => ?_)
                refine lv_goto (tgt := 32) hx hb dX5_remove_150 (by decide) ?_
                exact ih_32 (j + 1) (by omega) (by omega) _ _ _ (wW.eq (show wMd G a (0, ((mdRmK m.2.1 m.2.2.1 (iN w) j).1.1, (mdRmK m.2.1 m.2.2.1 (iN w) j).1.2.1, (mdRmK m.2.1 m.2.2.1 (iN w) j).1.2.2.1, (mdRmK m.2.1 m.2.2.1 (iN w) j).1.2.2.2.1, (updN ((mdRmK m.2.1 m.2.2.1 (iN w) j).1.2.2.2.2.1) (iN w + j) (((mdRmK m.2.1 m.2.2.1 (iN w) j).1.2.2.2.2.1) ((iN w + j) + 1))), (updN ((mdRmK m.2.1 m.2.2.1 (iN w) j).1.2.2.2.2.2.1) (iN w + j) (((mdRmK m.2.1 m.2.2.1 (iN w) j).1.2.2.2.2.2.1) ((iN w + j) + 1))), (updN ((mdRmK m.2.1 m.2.2.1 (iN w) j).1.2.2.2.2.2.2.1) (iN w + j) (((mdRmK m.2.1 m.2.2.1 (iN w) j).1.2.2.2.2.2.2.1) ((iN w + j) + 1))), (upd ((mdRmK m.2.1 m.2.2.1 (iN w) j).1.2.2.2.2.2.2.2) (iN w + j) (((mdRmK m.2.1 m.2.2.1 (iN w) j).1.2.2.2.2.2.2.2) ((iN w + j) + 1)))), (mdRmT (mdRmK m.2.1 m.2.2.1 (iN w) j).2 (iN w + j) v), (mdSolve m.2.1 m.2.2.2.1), m.2.2.2.2.1, m.2.2.2.2.2.1, m.2.2.2.2.2.2) = wMd G a (0, (mdRmK m.2.1 m.2.2.1 (iN w) (j + 1)).1, (mdRmK m.2.1 m.2.2.1 (iN w) (j + 1)).2, (mdSolve m.2.1 m.2.2.2.1), m.2.2.2.2.1, m.2.2.2.2.2.1, m.2.2.2.2.2.2) from (by rw [show v = 4 by omega]; rfl)) hw) (lv_sub hl [1, 2, 3, 0] rfl)
              · have hc_106 : iN w + j + 40 * v < 160 := ct_nge (k := iN w + j + 40 * v) (n := 160) (by omega) (by omega) c_106
                refine lv_aload_n hx hb dX5_remove_109 rfl (lv_at hl 0 rfl) ?_
                refine r_get (ci := 5) (v := .ref (a 8)) (C := RX5) (T := TX5) (N := 29) hx hb hts wiX5_remove_m_remove_X5 hown hK hw 0 rfl rfl 10 (by decide) wmX5_remove_m_remove_7 (fun _ h9 => h9) rfl dX5_remove_110 ?_
                refine lv_iload hx hb dX5_remove_113 (lv_at hl 4 rfl) ?_
                refine lv_aload_n hx hb dX5_remove_115 rfl (lv_at hl 0 rfl) ?_
                refine r_get (ci := 5) (v := .ref (a 8)) (C := RX5) (T := TX5) (N := 29) hx hb hts wiX5_remove_m_remove_X5 hown hK hw 0 rfl rfl 10 (by decide) wmX5_remove_m_remove_7 (fun _ h9 => h9) rfl dX5_remove_116 ?_
                refine lv_iload hx hb dX5_remove_119 (lv_at hl 4 rfl) ?_
                refine lv_iconst (v := 1) hx hb dX5_remove_121 (by decide) ?_
                refine lv_iadd hx hb dX5_remove_122 ?_
                refine r_top (y := nI ((iN w + j + 40 * v) + 1)) (nI_add (iN w + j + 40 * v) 1) ?_
                refine r_iald (v := ((mdRmT (mdRmK m.2.1 m.2.2.1 (iN w) j).2 (iN w + j) v).1) ((iN w + j + 40 * v) + 1)) hx hb hK hw 8 rfl ((iN w + j + 40 * v) + 1) rfl (by omega) (by decide) rfl dX5_remove_123 ?_
                refine r_iast hx hb hK hw 8 rfl (iN w + j + 40 * v) rfl (by omega) (by decide) dX5_remove_124 (ws' := wMd G a (0, ((mdRmK m.2.1 m.2.2.1 (iN w) j).1.1, (mdRmK m.2.1 m.2.2.1 (iN w) j).1.2.1, (mdRmK m.2.1 m.2.2.1 (iN w) j).1.2.2.1, (mdRmK m.2.1 m.2.2.1 (iN w) j).1.2.2.2.1, (updN ((mdRmK m.2.1 m.2.2.1 (iN w) j).1.2.2.2.2.1) (iN w + j) (((mdRmK m.2.1 m.2.2.1 (iN w) j).1.2.2.2.2.1) ((iN w + j) + 1))), (updN ((mdRmK m.2.1 m.2.2.1 (iN w) j).1.2.2.2.2.2.1) (iN w + j) (((mdRmK m.2.1 m.2.2.1 (iN w) j).1.2.2.2.2.2.1) ((iN w + j) + 1))), (updN ((mdRmK m.2.1 m.2.2.1 (iN w) j).1.2.2.2.2.2.2.1) (iN w + j) (((mdRmK m.2.1 m.2.2.1 (iN w) j).1.2.2.2.2.2.2.1) ((iN w + j) + 1))), (upd ((mdRmK m.2.1 m.2.2.1 (iN w) j).1.2.2.2.2.2.2.2) (iN w + j) (((mdRmK m.2.1 m.2.2.1 (iN w) j).1.2.2.2.2.2.2.2) ((iN w + j) + 1)))), ((upd ((mdRmT (mdRmK m.2.1 m.2.2.1 (iN w) j).2 (iN w + j) v).1) (iN w + j + 40 * v) (((mdRmT (mdRmK m.2.1 m.2.2.1 (iN w) j).2 (iN w + j) v).1) ((iN w + j + 40 * v) + 1))), (mdRmT (mdRmK m.2.1 m.2.2.1 (iN w) j).2 (iN w + j) v).2), (mdSolve m.2.1 m.2.2.2.1), m.2.2.2.2.1, m.2.2.2.2.2.1, m.2.2.2.2.2.2)) rfl (fun H locs hw => ?_)
                refine lv_aload_n hx hb dX5_remove_125 rfl (lv_at hl 0 rfl) ?_
                refine r_get (ci := 5) (v := .ref (a 9)) (C := RX5) (T := TX5) (N := 29) hx hb hts wiX5_remove_m_remove_X5 hown hK hw 0 rfl rfl 11 (by decide) wmX5_remove_m_remove_8 (fun _ h9 => h9) rfl dX5_remove_126 ?_
                refine lv_iload hx hb dX5_remove_129 (lv_at hl 4 rfl) ?_
                refine lv_aload_n hx hb dX5_remove_131 rfl (lv_at hl 0 rfl) ?_
                refine r_get (ci := 5) (v := .ref (a 9)) (C := RX5) (T := TX5) (N := 29) hx hb hts wiX5_remove_m_remove_X5 hown hK hw 0 rfl rfl 11 (by decide) wmX5_remove_m_remove_8 (fun _ h9 => h9) rfl dX5_remove_132 ?_
                refine lv_iload hx hb dX5_remove_135 (lv_at hl 4 rfl) ?_
                refine lv_iconst (v := 1) hx hb dX5_remove_137 (by decide) ?_
                refine lv_iadd hx hb dX5_remove_138 ?_
                refine r_top (y := nI ((iN w + j + 40 * v) + 1)) (nI_add (iN w + j + 40 * v) 1) ?_
                refine r_zald (v := ((mdRmT (mdRmK m.2.1 m.2.2.1 (iN w) j).2 (iN w + j) v).2) ((iN w + j + 40 * v) + 1)) hx hb hK hw 9 rfl ((iN w + j + 40 * v) + 1) rfl (by omega) (by decide) rfl dX5_remove_139 ?_
                refine r_zast hx hb hK hw 9 rfl (iN w + j + 40 * v) rfl (by omega) (by decide) (zb_vp (mdRmT01 (mdRmK01 htl (iN w) j) (iN w + j) v (iN w + j + 40 * v + 1))) dX5_remove_140 (ws' := wMd G a (0, ((mdRmK m.2.1 m.2.2.1 (iN w) j).1.1, (mdRmK m.2.1 m.2.2.1 (iN w) j).1.2.1, (mdRmK m.2.1 m.2.2.1 (iN w) j).1.2.2.1, (mdRmK m.2.1 m.2.2.1 (iN w) j).1.2.2.2.1, (updN ((mdRmK m.2.1 m.2.2.1 (iN w) j).1.2.2.2.2.1) (iN w + j) (((mdRmK m.2.1 m.2.2.1 (iN w) j).1.2.2.2.2.1) ((iN w + j) + 1))), (updN ((mdRmK m.2.1 m.2.2.1 (iN w) j).1.2.2.2.2.2.1) (iN w + j) (((mdRmK m.2.1 m.2.2.1 (iN w) j).1.2.2.2.2.2.1) ((iN w + j) + 1))), (updN ((mdRmK m.2.1 m.2.2.1 (iN w) j).1.2.2.2.2.2.2.1) (iN w + j) (((mdRmK m.2.1 m.2.2.1 (iN w) j).1.2.2.2.2.2.2.1) ((iN w + j) + 1))), (upd ((mdRmK m.2.1 m.2.2.1 (iN w) j).1.2.2.2.2.2.2.2) (iN w + j) (((mdRmK m.2.1 m.2.2.1 (iN w) j).1.2.2.2.2.2.2.2) ((iN w + j) + 1)))), ((upd ((mdRmT (mdRmK m.2.1 m.2.2.1 (iN w) j).2 (iN w + j) v).1) (iN w + j + 40 * v) (((mdRmT (mdRmK m.2.1 m.2.2.1 (iN w) j).2 (iN w + j) v).1) ((iN w + j + 40 * v) + 1))), (upd ((mdRmT (mdRmK m.2.1 m.2.2.1 (iN w) j).2 (iN w + j) v).2) (iN w + j + 40 * v) (((mdRmT (mdRmK m.2.1 m.2.2.1 (iN w) j).2 (iN w + j) v).2) ((iN w + j + 40 * v) + 1)))), (mdSolve m.2.1 m.2.2.2.1), m.2.2.2.2.1, m.2.2.2.2.2.1, m.2.2.2.2.2.2)) rfl (fun H locs hw => ?_)
                refine lv_iinc (v := nI ((iN w + j + 40 * v) + 40)) (lv' := [(4, .int (nI ((iN w + j + 40 * v) + 40))), (0, .ref (a 0)), (1, .int w), (2, .int (((mdSolve m.2.1 m.2.2.2.1).1) (iN w))), (3, .int (nI (iN w + j)))]) hx hb dX5_remove_141 hl (k := 4) rfl (nI_add (iN w + j + 40 * v) 40) (by decide) rfl (fun ls hl => ?_)
                refine lv_goto (tgt := 101) hx hb dX5_remove_144 (by decide) ?_
                exact ih_101 (v + 1) (by omega) (by first | assumption | omega | rfl) _ _ _ (wW.eq (show wMd G a (0, ((mdRmK m.2.1 m.2.2.1 (iN w) j).1.1, (mdRmK m.2.1 m.2.2.1 (iN w) j).1.2.1, (mdRmK m.2.1 m.2.2.1 (iN w) j).1.2.2.1, (mdRmK m.2.1 m.2.2.1 (iN w) j).1.2.2.2.1, (updN ((mdRmK m.2.1 m.2.2.1 (iN w) j).1.2.2.2.2.1) (iN w + j) (((mdRmK m.2.1 m.2.2.1 (iN w) j).1.2.2.2.2.1) ((iN w + j) + 1))), (updN ((mdRmK m.2.1 m.2.2.1 (iN w) j).1.2.2.2.2.2.1) (iN w + j) (((mdRmK m.2.1 m.2.2.1 (iN w) j).1.2.2.2.2.2.1) ((iN w + j) + 1))), (updN ((mdRmK m.2.1 m.2.2.1 (iN w) j).1.2.2.2.2.2.2.1) (iN w + j) (((mdRmK m.2.1 m.2.2.1 (iN w) j).1.2.2.2.2.2.2.1) ((iN w + j) + 1))), (upd ((mdRmK m.2.1 m.2.2.1 (iN w) j).1.2.2.2.2.2.2.2) (iN w + j) (((mdRmK m.2.1 m.2.2.1 (iN w) j).1.2.2.2.2.2.2.2) ((iN w + j) + 1)))), ((upd ((mdRmT (mdRmK m.2.1 m.2.2.1 (iN w) j).2 (iN w + j) v).1) (iN w + j + 40 * v) (((mdRmT (mdRmK m.2.1 m.2.2.1 (iN w) j).2 (iN w + j) v).1) ((iN w + j + 40 * v) + 1))), (upd ((mdRmT (mdRmK m.2.1 m.2.2.1 (iN w) j).2 (iN w + j) v).2) (iN w + j + 40 * v) (((mdRmT (mdRmK m.2.1 m.2.2.1 (iN w) j).2 (iN w + j) v).2) ((iN w + j + 40 * v) + 1)))), (mdSolve m.2.1 m.2.2.2.1), m.2.2.2.2.1, m.2.2.2.2.2.1, m.2.2.2.2.2.2) = wMd G a (0, ((mdRmK m.2.1 m.2.2.1 (iN w) j).1.1, (mdRmK m.2.1 m.2.2.1 (iN w) j).1.2.1, (mdRmK m.2.1 m.2.2.1 (iN w) j).1.2.2.1, (mdRmK m.2.1 m.2.2.1 (iN w) j).1.2.2.2.1, (updN ((mdRmK m.2.1 m.2.2.1 (iN w) j).1.2.2.2.2.1) (iN w + j) (((mdRmK m.2.1 m.2.2.1 (iN w) j).1.2.2.2.2.1) ((iN w + j) + 1))), (updN ((mdRmK m.2.1 m.2.2.1 (iN w) j).1.2.2.2.2.2.1) (iN w + j) (((mdRmK m.2.1 m.2.2.1 (iN w) j).1.2.2.2.2.2.1) ((iN w + j) + 1))), (updN ((mdRmK m.2.1 m.2.2.1 (iN w) j).1.2.2.2.2.2.2.1) (iN w + j) (((mdRmK m.2.1 m.2.2.1 (iN w) j).1.2.2.2.2.2.2.1) ((iN w + j) + 1))), (upd ((mdRmK m.2.1 m.2.2.1 (iN w) j).1.2.2.2.2.2.2.2) (iN w + j) (((mdRmK m.2.1 m.2.2.1 (iN w) j).1.2.2.2.2.2.2.2) ((iN w + j) + 1)))), (mdRmT (mdRmK m.2.1 m.2.2.1 (iN w) j).2 (iN w + j) (v + 1)), (mdSolve m.2.1 m.2.2.2.1), m.2.2.2.2.1, m.2.2.2.2.2.1, m.2.2.2.2.2.2) from rfl) hw) (lv_sub hl [1, 2, 3, 4, 0] (show lv_pick [(4, .int (nI ((iN w + j + 40 * v) + 40))), (0, .ref (a 0)), (1, .int w), (2, .int (((mdSolve m.2.1 m.2.2.2.1).1) (iN w))), (3, .int (nI (iN w + j)))] [1, 2, 3, 4, 0] = [(0, .ref (a 0)), (1, .int w), (2, .int (((mdSolve m.2.1 m.2.2.2.1).1) (iN w))), (3, .int (nI (iN w + j))), (4, .int (nI (iN w + j + 40 * (v + 1))))] by rw [show iN w + j + 40 * (v + 1) = iN w + j + 40 * v + 40 by omega]; rfl))
          exact loop_101 ((4 - 0) + 1) 0 (Nat.lt_succ_self _) (by first | assumption | omega | rfl) _ _ _ (wW.eq (show wMd G a (0, ((mdRmK m.2.1 m.2.2.1 (iN w) j).1.1, (mdRmK m.2.1 m.2.2.1 (iN w) j).1.2.1, (mdRmK m.2.1 m.2.2.1 (iN w) j).1.2.2.1, (mdRmK m.2.1 m.2.2.1 (iN w) j).1.2.2.2.1, (updN ((mdRmK m.2.1 m.2.2.1 (iN w) j).1.2.2.2.2.1) (iN w + j) (((mdRmK m.2.1 m.2.2.1 (iN w) j).1.2.2.2.2.1) ((iN w + j) + 1))), (updN ((mdRmK m.2.1 m.2.2.1 (iN w) j).1.2.2.2.2.2.1) (iN w + j) (((mdRmK m.2.1 m.2.2.1 (iN w) j).1.2.2.2.2.2.1) ((iN w + j) + 1))), (updN ((mdRmK m.2.1 m.2.2.1 (iN w) j).1.2.2.2.2.2.2.1) (iN w + j) (((mdRmK m.2.1 m.2.2.1 (iN w) j).1.2.2.2.2.2.2.1) ((iN w + j) + 1))), (upd ((mdRmK m.2.1 m.2.2.1 (iN w) j).1.2.2.2.2.2.2.2) (iN w + j) (((mdRmK m.2.1 m.2.2.1 (iN w) j).1.2.2.2.2.2.2.2) ((iN w + j) + 1)))), (mdRmK m.2.1 m.2.2.1 (iN w) j).2, (mdSolve m.2.1 m.2.2.2.1), m.2.2.2.2.1, m.2.2.2.2.2.1, m.2.2.2.2.2.2) = wMd G a (0, ((mdRmK m.2.1 m.2.2.1 (iN w) j).1.1, (mdRmK m.2.1 m.2.2.1 (iN w) j).1.2.1, (mdRmK m.2.1 m.2.2.1 (iN w) j).1.2.2.1, (mdRmK m.2.1 m.2.2.1 (iN w) j).1.2.2.2.1, (updN ((mdRmK m.2.1 m.2.2.1 (iN w) j).1.2.2.2.2.1) (iN w + j) (((mdRmK m.2.1 m.2.2.1 (iN w) j).1.2.2.2.2.1) ((iN w + j) + 1))), (updN ((mdRmK m.2.1 m.2.2.1 (iN w) j).1.2.2.2.2.2.1) (iN w + j) (((mdRmK m.2.1 m.2.2.1 (iN w) j).1.2.2.2.2.2.1) ((iN w + j) + 1))), (updN ((mdRmK m.2.1 m.2.2.1 (iN w) j).1.2.2.2.2.2.2.1) (iN w + j) (((mdRmK m.2.1 m.2.2.1 (iN w) j).1.2.2.2.2.2.2.1) ((iN w + j) + 1))), (upd ((mdRmK m.2.1 m.2.2.1 (iN w) j).1.2.2.2.2.2.2.2) (iN w + j) (((mdRmK m.2.1 m.2.2.1 (iN w) j).1.2.2.2.2.2.2.2) ((iN w + j) + 1)))), (mdRmT (mdRmK m.2.1 m.2.2.1 (iN w) j).2 (iN w + j) 0), (mdSolve m.2.1 m.2.2.2.1), m.2.2.2.2.1, m.2.2.2.2.2.1, m.2.2.2.2.2.2) from rfl) hw) (lv_sub hl [1, 2, 3, 4, 0] rfl)
    exact loop_32 ((m.2.1.2.2.2.1 - 1 - (iN w + 0)) + 1) 0 (Nat.lt_succ_self _) (by first | assumption | omega | rfl) _ _ _ (wW.eq (show wMd G a (0, m.2.1, m.2.2.1, (mdSolve m.2.1 m.2.2.2.1), m.2.2.2.2.1, m.2.2.2.2.2.1, m.2.2.2.2.2.2) = wMd G a (0, (mdRmK m.2.1 m.2.2.1 (iN w) 0).1, (mdRmK m.2.1 m.2.2.1 (iN w) 0).2, (mdSolve m.2.1 m.2.2.2.1), m.2.2.2.2.1, m.2.2.2.2.2.1, m.2.2.2.2.2.2) from rfl) hw) (lv_sub hl [2, 3, 1, 0] rfl)
  · refine lv_aload_n hx hb dX5_remove_13 rfl (lv_at hl 0 rfl) ?_
    refine lv_iconst (v := 1) hx hb dX5_remove_14 (by decide) ?_
    have hwc : wW G A9 s9.heap (([] : va_W) ++ ((wMd G a (0, m.2.1, m.2.2.1, m.2.2.2.1, m.2.2.2.2.1, m.2.2.2.2.2.1, m.2.2.2.2.2.2)) ++ ([] : va_W))) H locs := hw
    refine r_calli (res := 0) (u := ([] : va_W)) (w := wMd G a (0, m.2.1, m.2.2.1, m.2.2.2.1, m.2.2.2.2.1, m.2.2.2.2.2.1, m.2.2.2.2.2.2)) (v := ([] : va_W)) (va_runV (As := [.int 1]) (rest := []) ⟨hx, hb, hml, hown, hts⟩ (c_refuses l G a (0, m.2.1, m.2.2.1, m.2.2.2.1, m.2.2.2.2.1, m.2.2.2.2.2.1, m.2.2.2.2.2.2) 1 H.size) (cwV 1 hts gX5_remove_X5_refuses rfl rfl rfl (by decide +kernel) ⟨Nat.le_of_ble_eq_true rfl, Nat.le_of_ble_eq_true rfl⟩) (r_preV (ci := 5) (q0 := 0) hK hwc rfl rfl rfl) rfl rfl hl.1 rfl (lv_room (Nat.le_of_ble_eq_true rfl)) dX5_remove_15 ⟨Nat.le_of_ble_eq_true rfl, Nat.le_of_ble_eq_true rfl⟩) hwc hA rfl rfl (fun H locs hw => ?_)
    have hw : wW G A9 s9.heap (wMd G a (1, m.2.1, m.2.2.1, m.2.2.2.1, m.2.2.2.2.1, m.2.2.2.2.2.1, m.2.2.2.2.2.2)) H locs := hw
    exact m_iret hx hb hr hlocks hK hw (Nat.le_of_ble_eq_true rfl) (Nat.le_of_ble_eq_true rfl) dX5_remove_18 (show (0 : Int32) = (mdRemove m w).1 by first | rfl | (simp only [mdRemove, if_pos c_10]; first | done | rfl)) (show wMd G a (1, m.2.1, m.2.2.1, m.2.2.2.1, m.2.2.2.2.1, m.2.2.2.2.2.1, m.2.2.2.2.2.2) = wMd G a ((mdRemove m w).2) by first | rfl | (simp only [mdRemove, if_pos c_10]; first | done | rfl))

theorem wiX5_type_m_type_X5 : ∀ w ∈ wsX50, w ∈ wsX5_type := by decide +kernel
theorem wmX5_type_m_type_0 : Cond.fieldLink RX5 74 "PartSketchModel" "thrown" "I" ∈ wsX5_type := by decide +kernel
theorem wmX5_type_m_type_1 : Cond.fieldLink RX5 16 "PartSketchModel" "kind" "[I" ∈ wsX5_type := by decide +kernel
theorem wmX5_type_m_type_2 : Cond.fieldLink RX5 25 "PartSketchModel" "size" "[I" ∈ wsX5_type := by decide +kernel
set_option maxHeartbeats 4000000 in
set_option maxRecDepth 100000 in
/-- type -/
theorem c_m_type (l : Launch) (G : gT) (a : aMd) (m : tMd) (w : Int32) (d : Int32) (hnw : m.2.1.2.2.2.1 ≤ 40) (sz : Nat) : MI l yX5_type wsX5_type ({ frames := 2, cells := 0, slots := 0, locals := 43 }) G [.ref (a 0), .int w, .int d] (wMd G a m) (wMd G a ((mdType m w d).2)) sz ((mdType m w d).1) 0 0 := by
  refine m_of (Qc := fun A9 => (va_Qi (fun (r9 : Int32) (_ : Unit) => r9 = ((mdType m w d).1)) (fun _ t9 => wPost G A9 (wMd G a ((mdType m w d).2)) t9) A9)) (cc := cX5_type) (maxL := 4) (ret := (some .int)) (by decide) rfl (Nat.le_of_ble_eq_true rfl) ?_
  intro p9 e9 s9 m9 A9 be9 mt9 c9 H locs ls hx hb hr hts hown hlocks hin hml hK hA hw hl
  have hl : lv_has ls 4 [(0, .ref (a 0)), (1, .int w), (2, .int d)] := hl
  refine lv_aload_n hx hb dX5_type_0 rfl (lv_at hl 0 rfl) ?_
  refine lv_iconst (v := 0) hx hb dX5_type_1 (by decide) ?_
  refine r_put (ci := 5) (v := .int 0) (ty := .int) (C := RX5) (T := TX5) (N := 29) hx hb hts wiX5_type_m_type_X5 tyX5 tyX5_ok nmX5 hown hK hw 0 rfl rfl 0 (by decide) wmX5_type_m_type_0 (fun _ h9 => h9) rfl (by decide +kernel) rfl rfl (Nat.le_of_ble_eq_true rfl) dX5_type_2 (ws' := wMd G a (0, m.2.1, m.2.2.1, m.2.2.2.1, m.2.2.2.2.1, m.2.2.2.2.2.1, m.2.2.2.2.2.2)) rfl (fun H locs hw => ?_)
  refine lv_aload_n hx hb dX5_type_5 rfl (lv_at hl 0 rfl) ?_
  refine lv_iload_n hx hb dX5_type_6 rfl (lv_at hl 1 rfl) ?_
  have hwc : wW G A9 s9.heap (([] : va_W) ++ ((wMd G a (0, m.2.1, m.2.2.1, m.2.2.2.1, m.2.2.2.2.1, m.2.2.2.2.2.1, m.2.2.2.2.2.2)) ++ ([] : va_W))) H locs := hw
  refine r_calli (res := (mdIn w 0 (nI m.2.1.2.2.2.1 - 1))) (u := ([] : va_W)) (w := wMd G a (0, m.2.1, m.2.2.1, m.2.2.2.1, m.2.2.2.2.1, m.2.2.2.2.2.1, m.2.2.2.2.2.2)) (v := ([] : va_W)) (va_runV (As := [.int w]) (rest := []) ⟨hx, hb, hml, hown, hts⟩ (c_iswish l G a (0, m.2.1, m.2.2.1, m.2.2.2.1, m.2.2.2.2.1, m.2.2.2.2.2.1, m.2.2.2.2.2.2) w H.size) (cwV 1 hts gX5_type_X5_isWish rfl rfl rfl (by decide +kernel) ⟨Nat.le_of_ble_eq_true rfl, Nat.le_of_ble_eq_true rfl⟩) (r_preV (ci := 5) (q0 := 0) hK hwc rfl rfl rfl) rfl rfl hl.1 rfl (lv_room (Nat.le_of_ble_eq_true rfl)) dX5_type_7 ⟨Nat.le_of_ble_eq_true rfl, Nat.le_of_ble_eq_true rfl⟩) hwc hA rfl rfl (fun H locs hw => ?_)
  have hw : wW G A9 s9.heap (wMd G a (0, m.2.1, m.2.2.1, m.2.2.2.1, m.2.2.2.2.1, m.2.2.2.2.2.1, m.2.2.2.2.2.2)) H locs := hw
  refine lv_if_ne (tgt := 19) hx hb dX5_type_10 (by decide) (fun c_10 => ?_) (fun c_10 => ?_)
  · have hwl : iN w < m.2.1.2.2.2.1 := mdIn_lt (Nat.le_trans hnw (by omega)) c_10
    refine lv_aload_n hx hb dX5_type_19 rfl (lv_at hl 0 rfl) ?_
    refine r_get (ci := 5) (v := .ref (a 3)) (C := RX5) (T := TX5) (N := 29) hx hb hts wiX5_type_m_type_X5 hown hK hw 0 rfl rfl 5 (by decide) wmX5_type_m_type_1 (fun _ h9 => h9) rfl dX5_type_20 ?_
    refine lv_iload_n hx hb dX5_type_23 rfl (lv_at hl 1 rfl) ?_
    refine r_iald (v := nI (m.2.1.2.2.2.2.1 (iN w))) hx hb hK hw 3 rfl (iN w) (nI_iN w) (by omega) (by decide) rfl dX5_type_24 ?_
    refine lv_iconst (v := 2) hx hb dX5_type_25 (by decide) ?_
    refine lv_icmp_ne (tgt := 35) hx hb dX5_type_26 (by decide) (fun c_26 => ?_) (fun c_26 => ?_)
    · refine lv_iload_n hx hb dX5_type_35 rfl (lv_at hl 2 rfl) ?_
      have hwc : wW G A9 s9.heap (([] : va_W) ++ (([] : va_W) ++ (wMd G a (0, m.2.1, m.2.2.1, m.2.2.2.1, m.2.2.2.2.1, m.2.2.2.2.2.1, m.2.2.2.2.2.2)))) H locs := hw
      refine r_calli (res := (mdIn d (-100) 100)) (u := ([] : va_W)) (w := ([] : va_W)) (v := wMd G a (0, m.2.1, m.2.2.1, m.2.2.2.1, m.2.2.2.2.1, m.2.2.2.2.2.1, m.2.2.2.2.2.2)) (va_runS (As := [.int d]) (rest := []) ⟨hx, hb, hml, hown, hts⟩ (c_near l G d H.size) (va_cwS 1 hts gX5_type_X5_isNear rfl rfl rfl (by decide +kernel) ⟨Nat.le_of_ble_eq_true rfl, Nat.le_of_ble_eq_true rfl⟩) (r_preS hK hwc) rfl rfl hl.1 rfl (lv_room (Nat.le_of_ble_eq_true rfl)) dX5_type_36 ⟨Nat.le_of_ble_eq_true rfl, Nat.le_of_ble_eq_true rfl⟩) hwc hA rfl rfl (fun H locs hw => ?_)
      have hw : wW G A9 s9.heap (wMd G a (0, m.2.1, m.2.2.1, m.2.2.2.1, m.2.2.2.2.1, m.2.2.2.2.2.1, m.2.2.2.2.2.2)) H locs := hw
      refine lv_if_ne (tgt := 48) hx hb dX5_type_39 (by decide) (fun c_39 => ?_) (fun c_39 => ?_)
      · refine lv_aload_n hx hb dX5_type_48 rfl (lv_at hl 0 rfl) ?_
        refine r_get (ci := 5) (v := .ref (a 6)) (C := RX5) (T := TX5) (N := 29) hx hb hts wiX5_type_m_type_X5 hown hK hw 0 rfl rfl 8 (by decide) wmX5_type_m_type_2 (fun _ h9 => h9) rfl dX5_type_49 ?_
        refine lv_iload_n hx hb dX5_type_52 rfl (lv_at hl 1 rfl) ?_
        refine r_iald (v := m.2.1.2.2.2.2.2.2.2 (iN w)) hx hb hK hw 6 rfl (iN w) (nI_iN w) (by omega) (by decide) rfl dX5_type_53 ?_
        refine lv_istore_n (lv' := [(3, .int (m.2.1.2.2.2.2.2.2.2 (iN w))), (0, .ref (a 0)), (1, .int w), (2, .int d)]) hx hb dX5_type_54 rfl hl (by decide) rfl (fun ls hl => ?_)
        refine lv_aload_n hx hb dX5_type_55 rfl (lv_at hl 1 rfl) ?_
        refine r_get (ci := 5) (v := .ref (a 6)) (C := RX5) (T := TX5) (N := 29) hx hb hts wiX5_type_m_type_X5 hown hK hw 0 rfl rfl 8 (by decide) wmX5_type_m_type_2 (fun _ h9 => h9) rfl dX5_type_56 ?_
        refine lv_iload_n hx hb dX5_type_59 rfl (lv_at hl 2 rfl) ?_
        refine lv_iload_n hx hb dX5_type_60 rfl (lv_at hl 3 rfl) ?_
        refine r_iast hx hb hK hw 6 rfl (iN w) (nI_iN w) (by omega) (by decide) dX5_type_61 (ws' := wMd G a (0, (m.2.1.1, m.2.1.2.1, m.2.1.2.2.1, m.2.1.2.2.2.1, m.2.1.2.2.2.2.1, m.2.1.2.2.2.2.2.1, m.2.1.2.2.2.2.2.2.1, (upd m.2.1.2.2.2.2.2.2.2 (iN w) d)), m.2.2.1, m.2.2.2.1, m.2.2.2.2.1, m.2.2.2.2.2.1, m.2.2.2.2.2.2)) rfl (fun H locs hw => ?_)
        refine lv_iload_n hx hb dX5_type_62 rfl (lv_at hl 0 rfl) ?_
        exact m_iret hx hb hr hlocks hK hw (Nat.le_of_ble_eq_true rfl) (Nat.le_of_ble_eq_true rfl) dX5_type_63 (show (m.2.1.2.2.2.2.2.2.2 (iN w) : Int32) = (mdType m w d).1 by first | rfl | (simp only [mdType, if_neg c_10, if_neg c_26, if_neg c_39]; first | done | rfl)) (show wMd G a (0, (m.2.1.1, m.2.1.2.1, m.2.1.2.2.1, m.2.1.2.2.2.1, m.2.1.2.2.2.2.1, m.2.1.2.2.2.2.2.1, m.2.1.2.2.2.2.2.2.1, (upd m.2.1.2.2.2.2.2.2.2 (iN w) d)), m.2.2.1, m.2.2.2.1, m.2.2.2.2.1, m.2.2.2.2.2.1, m.2.2.2.2.2.2) = wMd G a ((mdType m w d).2) by first | rfl | (simp only [mdType, if_neg c_10, if_neg c_26, if_neg c_39]; first | done | rfl))
      · refine lv_aload_n hx hb dX5_type_42 rfl (lv_at hl 0 rfl) ?_
        refine lv_iconst (v := 3) hx hb dX5_type_43 (by decide) ?_
        have hwc : wW G A9 s9.heap (([] : va_W) ++ ((wMd G a (0, m.2.1, m.2.2.1, m.2.2.2.1, m.2.2.2.2.1, m.2.2.2.2.2.1, m.2.2.2.2.2.2)) ++ ([] : va_W))) H locs := hw
        refine r_calli (res := 0) (u := ([] : va_W)) (w := wMd G a (0, m.2.1, m.2.2.1, m.2.2.2.1, m.2.2.2.2.1, m.2.2.2.2.2.1, m.2.2.2.2.2.2)) (v := ([] : va_W)) (va_runV (As := [.int 3]) (rest := []) ⟨hx, hb, hml, hown, hts⟩ (c_refuses l G a (0, m.2.1, m.2.2.1, m.2.2.2.1, m.2.2.2.2.1, m.2.2.2.2.2.1, m.2.2.2.2.2.2) 3 H.size) (cwV 1 hts gX5_type_X5_refuses rfl rfl rfl (by decide +kernel) ⟨Nat.le_of_ble_eq_true rfl, Nat.le_of_ble_eq_true rfl⟩) (r_preV (ci := 5) (q0 := 0) hK hwc rfl rfl rfl) rfl rfl hl.1 rfl (lv_room (Nat.le_of_ble_eq_true rfl)) dX5_type_44 ⟨Nat.le_of_ble_eq_true rfl, Nat.le_of_ble_eq_true rfl⟩) hwc hA rfl rfl (fun H locs hw => ?_)
        have hw : wW G A9 s9.heap (wMd G a (3, m.2.1, m.2.2.1, m.2.2.2.1, m.2.2.2.2.1, m.2.2.2.2.2.1, m.2.2.2.2.2.2)) H locs := hw
        exact m_iret hx hb hr hlocks hK hw (Nat.le_of_ble_eq_true rfl) (Nat.le_of_ble_eq_true rfl) dX5_type_47 (show (0 : Int32) = (mdType m w d).1 by first | rfl | (simp only [mdType, if_neg c_10, if_neg c_26, if_pos c_39]; first | done | rfl)) (show wMd G a (3, m.2.1, m.2.2.1, m.2.2.2.1, m.2.2.2.2.1, m.2.2.2.2.2.1, m.2.2.2.2.2.2) = wMd G a ((mdType m w d).2) by first | rfl | (simp only [mdType, if_neg c_10, if_neg c_26, if_pos c_39]; first | done | rfl))
    · refine lv_aload_n hx hb dX5_type_29 rfl (lv_at hl 0 rfl) ?_
      refine lv_iconst (v := 2) hx hb dX5_type_30 (by decide) ?_
      have hwc : wW G A9 s9.heap (([] : va_W) ++ ((wMd G a (0, m.2.1, m.2.2.1, m.2.2.2.1, m.2.2.2.2.1, m.2.2.2.2.2.1, m.2.2.2.2.2.2)) ++ ([] : va_W))) H locs := hw
      refine r_calli (res := 0) (u := ([] : va_W)) (w := wMd G a (0, m.2.1, m.2.2.1, m.2.2.2.1, m.2.2.2.2.1, m.2.2.2.2.2.1, m.2.2.2.2.2.2)) (v := ([] : va_W)) (va_runV (As := [.int 2]) (rest := []) ⟨hx, hb, hml, hown, hts⟩ (c_refuses l G a (0, m.2.1, m.2.2.1, m.2.2.2.1, m.2.2.2.2.1, m.2.2.2.2.2.1, m.2.2.2.2.2.2) 2 H.size) (cwV 1 hts gX5_type_X5_refuses rfl rfl rfl (by decide +kernel) ⟨Nat.le_of_ble_eq_true rfl, Nat.le_of_ble_eq_true rfl⟩) (r_preV (ci := 5) (q0 := 0) hK hwc rfl rfl rfl) rfl rfl hl.1 rfl (lv_room (Nat.le_of_ble_eq_true rfl)) dX5_type_31 ⟨Nat.le_of_ble_eq_true rfl, Nat.le_of_ble_eq_true rfl⟩) hwc hA rfl rfl (fun H locs hw => ?_)
      have hw : wW G A9 s9.heap (wMd G a (2, m.2.1, m.2.2.1, m.2.2.2.1, m.2.2.2.2.1, m.2.2.2.2.2.1, m.2.2.2.2.2.2)) H locs := hw
      exact m_iret hx hb hr hlocks hK hw (Nat.le_of_ble_eq_true rfl) (Nat.le_of_ble_eq_true rfl) dX5_type_34 (show (0 : Int32) = (mdType m w d).1 by first | rfl | (simp only [mdType, if_neg c_10, if_pos c_26]; first | done | rfl)) (show wMd G a (2, m.2.1, m.2.2.1, m.2.2.2.1, m.2.2.2.2.1, m.2.2.2.2.2.1, m.2.2.2.2.2.2) = wMd G a ((mdType m w d).2) by first | rfl | (simp only [mdType, if_neg c_10, if_pos c_26]; first | done | rfl))
  · refine lv_aload_n hx hb dX5_type_13 rfl (lv_at hl 0 rfl) ?_
    refine lv_iconst (v := 1) hx hb dX5_type_14 (by decide) ?_
    have hwc : wW G A9 s9.heap (([] : va_W) ++ ((wMd G a (0, m.2.1, m.2.2.1, m.2.2.2.1, m.2.2.2.2.1, m.2.2.2.2.2.1, m.2.2.2.2.2.2)) ++ ([] : va_W))) H locs := hw
    refine r_calli (res := 0) (u := ([] : va_W)) (w := wMd G a (0, m.2.1, m.2.2.1, m.2.2.2.1, m.2.2.2.2.1, m.2.2.2.2.2.1, m.2.2.2.2.2.2)) (v := ([] : va_W)) (va_runV (As := [.int 1]) (rest := []) ⟨hx, hb, hml, hown, hts⟩ (c_refuses l G a (0, m.2.1, m.2.2.1, m.2.2.2.1, m.2.2.2.2.1, m.2.2.2.2.2.1, m.2.2.2.2.2.2) 1 H.size) (cwV 1 hts gX5_type_X5_refuses rfl rfl rfl (by decide +kernel) ⟨Nat.le_of_ble_eq_true rfl, Nat.le_of_ble_eq_true rfl⟩) (r_preV (ci := 5) (q0 := 0) hK hwc rfl rfl rfl) rfl rfl hl.1 rfl (lv_room (Nat.le_of_ble_eq_true rfl)) dX5_type_15 ⟨Nat.le_of_ble_eq_true rfl, Nat.le_of_ble_eq_true rfl⟩) hwc hA rfl rfl (fun H locs hw => ?_)
    have hw : wW G A9 s9.heap (wMd G a (1, m.2.1, m.2.2.1, m.2.2.2.1, m.2.2.2.2.1, m.2.2.2.2.2.1, m.2.2.2.2.2.2)) H locs := hw
    exact m_iret hx hb hr hlocks hK hw (Nat.le_of_ble_eq_true rfl) (Nat.le_of_ble_eq_true rfl) dX5_type_18 (show (0 : Int32) = (mdType m w d).1 by first | rfl | (simp only [mdType, if_pos c_10]; first | done | rfl)) (show wMd G a (1, m.2.1, m.2.2.1, m.2.2.2.1, m.2.2.2.2.1, m.2.2.2.2.2.1, m.2.2.2.2.2.2) = wMd G a ((mdType m w d).2) by first | rfl | (simp only [mdType, if_pos c_10]; first | done | rfl))

theorem wiX5_state_m_state_X5 : ∀ w ∈ wsX50, w ∈ wsX5_state := by decide +kernel
theorem wmX5_state_m_state_0 : Cond.fieldLink RX5 74 "PartSketchModel" "thrown" "I" ∈ wsX5_state := by decide +kernel
theorem wmX5_state_m_state_1 : Cond.fieldLink RX5 28 "PartSketchModel" "state" "[I" ∈ wsX5_state := by decide +kernel
set_option maxHeartbeats 4000000 in
set_option maxRecDepth 100000 in
/-- state -/
theorem c_m_state (l : Launch) (G : gT) (a : aMd) (m : tMd) (w : Int32) (hok : mdOk m.2.1) (hnw : m.2.1.2.2.2.1 ≤ 40) (sz : Nat) : MI l yX5_state wsX5_state ({ frames := 2, cells := 0, slots := 0, locals := 53 }) G [.ref (a 0), .int w] (wMd G a m) (wMd G a ((mdState m w).2)) sz ((mdState m w).1) 0 0 := by
  refine m_of (Qc := fun A9 => (va_Qi (fun (r9 : Int32) (_ : Unit) => r9 = ((mdState m w).1)) (fun _ t9 => wPost G A9 (wMd G a ((mdState m w).2)) t9) A9)) (cc := cX5_state) (maxL := 2) (ret := (some .int)) (by decide) rfl (Nat.le_of_ble_eq_true rfl) ?_
  intro p9 e9 s9 m9 A9 be9 mt9 c9 H locs ls hx hb hr hts hown hlocks hin hml hK hA hw hl
  have hl : lv_has ls 2 [(0, .ref (a 0)), (1, .int w)] := hl
  refine lv_aload_n hx hb dX5_state_0 rfl (lv_at hl 0 rfl) ?_
  refine lv_iconst (v := 0) hx hb dX5_state_1 (by decide) ?_
  refine r_put (ci := 5) (v := .int 0) (ty := .int) (C := RX5) (T := TX5) (N := 29) hx hb hts wiX5_state_m_state_X5 tyX5 tyX5_ok nmX5 hown hK hw 0 rfl rfl 0 (by decide) wmX5_state_m_state_0 (fun _ h9 => h9) rfl (by decide +kernel) rfl rfl (Nat.le_of_ble_eq_true rfl) dX5_state_2 (ws' := wMd G a (0, m.2.1, m.2.2.1, m.2.2.2.1, m.2.2.2.2.1, m.2.2.2.2.2.1, m.2.2.2.2.2.2)) rfl (fun H locs hw => ?_)
  refine lv_aload_n hx hb dX5_state_5 rfl (lv_at hl 0 rfl) ?_
  refine lv_iload_n hx hb dX5_state_6 rfl (lv_at hl 1 rfl) ?_
  have hwc : wW G A9 s9.heap (([] : va_W) ++ ((wMd G a (0, m.2.1, m.2.2.1, m.2.2.2.1, m.2.2.2.2.1, m.2.2.2.2.2.1, m.2.2.2.2.2.2)) ++ ([] : va_W))) H locs := hw
  refine r_calli (res := (mdIn w 0 (nI m.2.1.2.2.2.1 - 1))) (u := ([] : va_W)) (w := wMd G a (0, m.2.1, m.2.2.1, m.2.2.2.1, m.2.2.2.2.1, m.2.2.2.2.2.1, m.2.2.2.2.2.2)) (v := ([] : va_W)) (va_runV (As := [.int w]) (rest := []) ⟨hx, hb, hml, hown, hts⟩ (c_iswish l G a (0, m.2.1, m.2.2.1, m.2.2.2.1, m.2.2.2.2.1, m.2.2.2.2.2.1, m.2.2.2.2.2.2) w H.size) (cwV 1 hts gX5_state_X5_isWish rfl rfl rfl (by decide +kernel) ⟨Nat.le_of_ble_eq_true rfl, Nat.le_of_ble_eq_true rfl⟩) (r_preV (ci := 5) (q0 := 0) hK hwc rfl rfl rfl) rfl rfl hl.1 rfl (lv_room (Nat.le_of_ble_eq_true rfl)) dX5_state_7 ⟨Nat.le_of_ble_eq_true rfl, Nat.le_of_ble_eq_true rfl⟩) hwc hA rfl rfl (fun H locs hw => ?_)
  have hw : wW G A9 s9.heap (wMd G a (0, m.2.1, m.2.2.1, m.2.2.2.1, m.2.2.2.2.1, m.2.2.2.2.2.1, m.2.2.2.2.2.2)) H locs := hw
  refine lv_if_ne (tgt := 19) hx hb dX5_state_10 (by decide) (fun c_10 => ?_) (fun c_10 => ?_)
  · have hwl : iN w < m.2.1.2.2.2.1 := mdIn_lt (Nat.le_trans hnw (by omega)) c_10
    refine lv_aload_n hx hb dX5_state_19 rfl (lv_at hl 0 rfl) ?_
    have hwc : wW G A9 s9.heap (([] : va_W) ++ ((wMd G a (0, m.2.1, m.2.2.1, m.2.2.2.1, m.2.2.2.2.1, m.2.2.2.2.2.1, m.2.2.2.2.2.2)) ++ ([] : va_W))) H locs := hw
    refine r_callv (u := ([] : va_W)) (w := wMd G a (0, m.2.1, m.2.2.1, m.2.2.2.1, m.2.2.2.2.1, m.2.2.2.2.2.1, m.2.2.2.2.2.2)) (v := ([] : va_W)) (va_runV (As := []) (rest := []) ⟨hx, hb, hml, hown, hts⟩ (c_solves l G a (0, m.2.1, m.2.2.1, m.2.2.2.1, m.2.2.2.2.1, m.2.2.2.2.2.1, m.2.2.2.2.2.2) (by first | assumption | omega | decide) H.size) (cwV 0 hts gX5_state_X5_solves rfl rfl rfl (by decide +kernel) ⟨Nat.le_of_ble_eq_true rfl, Nat.le_of_ble_eq_true rfl⟩) (r_preV (ci := 5) (q0 := 0) hK hwc rfl rfl rfl) rfl rfl hl.1 rfl (lv_room (Nat.le_of_ble_eq_true rfl)) dX5_state_20 ⟨Nat.le_of_ble_eq_true rfl, Nat.le_of_ble_eq_true rfl⟩) hwc hA rfl rfl (fun H locs hw => ?_)
    have hw : wW G A9 s9.heap (wMd G a (0, m.2.1, m.2.2.1, (mdSolve m.2.1 m.2.2.2.1), m.2.2.2.2.1, m.2.2.2.2.2.1, m.2.2.2.2.2.2)) H locs := hw
    refine lv_aload_n hx hb dX5_state_23 rfl (lv_at hl 0 rfl) ?_
    refine r_get (ci := 5) (v := .ref (a 7)) (C := RX5) (T := TX5) (N := 29) hx hb hts wiX5_state_m_state_X5 hown hK hw 0 rfl rfl 9 (by decide) wmX5_state_m_state_1 (fun _ h9 => h9) rfl dX5_state_24 ?_
    refine lv_iload_n hx hb dX5_state_27 rfl (lv_at hl 1 rfl) ?_
    refine r_iald (v := ((mdSolve m.2.1 m.2.2.2.1).1) (iN w)) hx hb hK hw 7 rfl (iN w) (nI_iN w) (by omega) (by decide) rfl dX5_state_28 ?_
    exact m_iret hx hb hr hlocks hK hw (Nat.le_of_ble_eq_true rfl) (Nat.le_of_ble_eq_true rfl) dX5_state_29 (show (((mdSolve m.2.1 m.2.2.2.1).1) (iN w) : Int32) = (mdState m w).1 by first | rfl | (simp only [mdState, if_neg c_10]; first | done | rfl)) (show wMd G a (0, m.2.1, m.2.2.1, (mdSolve m.2.1 m.2.2.2.1), m.2.2.2.2.1, m.2.2.2.2.2.1, m.2.2.2.2.2.2) = wMd G a ((mdState m w).2) by first | rfl | (simp only [mdState, if_neg c_10]; first | done | rfl))
  · refine lv_aload_n hx hb dX5_state_13 rfl (lv_at hl 0 rfl) ?_
    refine lv_iconst (v := 1) hx hb dX5_state_14 (by decide) ?_
    have hwc : wW G A9 s9.heap (([] : va_W) ++ ((wMd G a (0, m.2.1, m.2.2.1, m.2.2.2.1, m.2.2.2.2.1, m.2.2.2.2.2.1, m.2.2.2.2.2.2)) ++ ([] : va_W))) H locs := hw
    refine r_calli (res := 0) (u := ([] : va_W)) (w := wMd G a (0, m.2.1, m.2.2.1, m.2.2.2.1, m.2.2.2.2.1, m.2.2.2.2.2.1, m.2.2.2.2.2.2)) (v := ([] : va_W)) (va_runV (As := [.int 1]) (rest := []) ⟨hx, hb, hml, hown, hts⟩ (c_refuses l G a (0, m.2.1, m.2.2.1, m.2.2.2.1, m.2.2.2.2.1, m.2.2.2.2.2.1, m.2.2.2.2.2.2) 1 H.size) (cwV 1 hts gX5_state_X5_refuses rfl rfl rfl (by decide +kernel) ⟨Nat.le_of_ble_eq_true rfl, Nat.le_of_ble_eq_true rfl⟩) (r_preV (ci := 5) (q0 := 0) hK hwc rfl rfl rfl) rfl rfl hl.1 rfl (lv_room (Nat.le_of_ble_eq_true rfl)) dX5_state_15 ⟨Nat.le_of_ble_eq_true rfl, Nat.le_of_ble_eq_true rfl⟩) hwc hA rfl rfl (fun H locs hw => ?_)
    have hw : wW G A9 s9.heap (wMd G a (1, m.2.1, m.2.2.1, m.2.2.2.1, m.2.2.2.2.1, m.2.2.2.2.2.1, m.2.2.2.2.2.2)) H locs := hw
    exact m_iret hx hb hr hlocks hK hw (Nat.le_of_ble_eq_true rfl) (Nat.le_of_ble_eq_true rfl) dX5_state_18 (show (0 : Int32) = (mdState m w).1 by first | rfl | (simp only [mdState, if_pos c_10]; first | done | rfl)) (show wMd G a (1, m.2.1, m.2.2.1, m.2.2.2.1, m.2.2.2.2.1, m.2.2.2.2.2.1, m.2.2.2.2.2.2) = wMd G a ((mdState m w).2) by first | rfl | (simp only [mdState, if_pos c_10]; first | done | rfl))

theorem wiX5_wishes_m_wishes_X5 : ∀ w ∈ wsX50, w ∈ wsX5_wishes := by decide +kernel
theorem wmX5_wishes_m_wishes_0 : Cond.fieldLink RX5 74 "PartSketchModel" "thrown" "I" ∈ wsX5_wishes := by decide +kernel
theorem wmX5_wishes_m_wishes_1 : Cond.fieldLink RX5 85 "PartSketchModel" "wishes" "I" ∈ wsX5_wishes := by decide +kernel
set_option maxHeartbeats 4000000 in
set_option maxRecDepth 100000 in
/-- wishes -/
theorem c_m_wishes (l : Launch) (G : gT) (a : aMd) (m : tMd) (sz : Nat) : MI l yX5_wishes wsX5_wishes ({ frames := 0, cells := 0, slots := 0, locals := 0 }) G [.ref (a 0)] (wMd G a m) (wMd G a (0, m.2.1, m.2.2.1, m.2.2.2.1, m.2.2.2.2.1, m.2.2.2.2.2.1, m.2.2.2.2.2.2)) sz (nI m.2.1.2.2.2.1) 0 0 := by
  refine m_of (Qc := fun A9 => (va_Qi (fun (r9 : Int32) (_ : Unit) => r9 = (nI m.2.1.2.2.2.1)) (fun _ t9 => wPost G A9 (wMd G a (0, m.2.1, m.2.2.1, m.2.2.2.1, m.2.2.2.2.1, m.2.2.2.2.2.1, m.2.2.2.2.2.2)) t9) A9)) (cc := cX5_wishes) (maxL := 1) (ret := (some .int)) (by decide) rfl (Nat.le_of_ble_eq_true rfl) ?_
  intro p9 e9 s9 m9 A9 be9 mt9 c9 H locs ls hx hb hr hts hown hlocks hin hml hK hA hw hl
  have hl : lv_has ls 1 [(0, .ref (a 0))] := hl
  refine lv_aload_n hx hb dX5_wishes_0 rfl (lv_at hl 0 rfl) ?_
  refine lv_iconst (v := 0) hx hb dX5_wishes_1 (by decide) ?_
  refine r_put (ci := 5) (v := .int 0) (ty := .int) (C := RX5) (T := TX5) (N := 29) hx hb hts wiX5_wishes_m_wishes_X5 tyX5 tyX5_ok nmX5 hown hK hw 0 rfl rfl 0 (by decide) wmX5_wishes_m_wishes_0 (fun _ h9 => h9) rfl (by decide +kernel) rfl rfl (Nat.le_of_ble_eq_true rfl) dX5_wishes_2 (ws' := wMd G a (0, m.2.1, m.2.2.1, m.2.2.2.1, m.2.2.2.2.1, m.2.2.2.2.2.1, m.2.2.2.2.2.2)) rfl (fun H locs hw => ?_)
  refine lv_aload_n hx hb dX5_wishes_5 rfl (lv_at hl 0 rfl) ?_
  refine r_get (ci := 5) (v := .int (nI m.2.1.2.2.2.1)) (C := RX5) (T := TX5) (N := 29) hx hb hts wiX5_wishes_m_wishes_X5 hown hK hw 0 rfl rfl 4 (by decide) wmX5_wishes_m_wishes_1 (fun _ h9 => h9) rfl dX5_wishes_6 ?_
  exact m_iret hx hb hr hlocks hK hw (Nat.le_of_ble_eq_true rfl) (Nat.le_of_ble_eq_true rfl) dX5_wishes_9 (show (nI m.2.1.2.2.2.1 : Int32) = nI m.2.1.2.2.2.1 by first | rfl | (simp only []; first | done | rfl)) rfl

theorem wiX5_x_m_x_X5 : ∀ w ∈ wsX50, w ∈ wsX5_x := by decide +kernel
theorem wmX5_x_m_x_0 : Cond.fieldLink RX5 74 "PartSketchModel" "thrown" "I" ∈ wsX5_x := by decide +kernel
set_option maxHeartbeats 4000000 in
set_option maxRecDepth 100000 in
/-- x -/
theorem c_m_x (l : Launch) (G : gT) (a : aMd) (m : tMd) (p : Int32) (hok : mdOk m.2.1) (hnp : m.2.1.1 ≤ 16) (sz : Nat) : MI l yX5_x wsX5_x ({ frames := 2, cells := 0, slots := 0, locals := 53 }) G [.ref (a 0), .int p] (wMd G a m) (wMd G a ((mdXy 0 m p).2)) sz ((mdXy 0 m p).1) 0 0 := by
  refine m_of (Qc := fun A9 => (va_Qi (fun (r9 : Int32) (_ : Unit) => r9 = ((mdXy 0 m p).1)) (fun _ t9 => wPost G A9 (wMd G a ((mdXy 0 m p).2)) t9) A9)) (cc := cX5_x) (maxL := 2) (ret := (some .int)) (by decide) rfl (Nat.le_of_ble_eq_true rfl) ?_
  intro p9 e9 s9 m9 A9 be9 mt9 c9 H locs ls hx hb hr hts hown hlocks hin hml hK hA hw hl
  have hl : lv_has ls 2 [(0, .ref (a 0)), (1, .int p)] := hl
  refine lv_aload_n hx hb dX5_x_0 rfl (lv_at hl 0 rfl) ?_
  refine lv_iconst (v := 0) hx hb dX5_x_1 (by decide) ?_
  refine r_put (ci := 5) (v := .int 0) (ty := .int) (C := RX5) (T := TX5) (N := 29) hx hb hts wiX5_x_m_x_X5 tyX5 tyX5_ok nmX5 hown hK hw 0 rfl rfl 0 (by decide) wmX5_x_m_x_0 (fun _ h9 => h9) rfl (by decide +kernel) rfl rfl (Nat.le_of_ble_eq_true rfl) dX5_x_2 (ws' := wMd G a (0, m.2.1, m.2.2.1, m.2.2.2.1, m.2.2.2.2.1, m.2.2.2.2.2.1, m.2.2.2.2.2.2)) rfl (fun H locs hw => ?_)
  refine lv_aload_n hx hb dX5_x_5 rfl (lv_at hl 0 rfl) ?_
  refine lv_iload_n hx hb dX5_x_6 rfl (lv_at hl 1 rfl) ?_
  have hwc : wW G A9 s9.heap (([] : va_W) ++ ((wMd G a (0, m.2.1, m.2.2.1, m.2.2.2.1, m.2.2.2.2.1, m.2.2.2.2.2.1, m.2.2.2.2.2.2)) ++ ([] : va_W))) H locs := hw
  refine r_calli (res := (mdIn p 0 (nI m.2.1.1 - 1))) (u := ([] : va_W)) (w := wMd G a (0, m.2.1, m.2.2.1, m.2.2.2.1, m.2.2.2.2.1, m.2.2.2.2.2.1, m.2.2.2.2.2.2)) (v := ([] : va_W)) (va_runV (As := [.int p]) (rest := []) ⟨hx, hb, hml, hown, hts⟩ (c_ispoint l G a (0, m.2.1, m.2.2.1, m.2.2.2.1, m.2.2.2.2.1, m.2.2.2.2.2.1, m.2.2.2.2.2.2) p H.size) (cwV 1 hts gX5_x_X5_isPoint rfl rfl rfl (by decide +kernel) ⟨Nat.le_of_ble_eq_true rfl, Nat.le_of_ble_eq_true rfl⟩) (r_preV (ci := 5) (q0 := 0) hK hwc rfl rfl rfl) rfl rfl hl.1 rfl (lv_room (Nat.le_of_ble_eq_true rfl)) dX5_x_7 ⟨Nat.le_of_ble_eq_true rfl, Nat.le_of_ble_eq_true rfl⟩) hwc hA rfl rfl (fun H locs hw => ?_)
  have hw : wW G A9 s9.heap (wMd G a (0, m.2.1, m.2.2.1, m.2.2.2.1, m.2.2.2.2.1, m.2.2.2.2.2.1, m.2.2.2.2.2.2)) H locs := hw
  refine lv_if_ne (tgt := 19) hx hb dX5_x_10 (by decide) (fun c_10 => ?_) (fun c_10 => ?_)
  · have hpl : iN p < m.2.1.1 := mdIn_lt (by omega) c_10
    refine lv_aload_n hx hb dX5_x_19 rfl (lv_at hl 0 rfl) ?_
    have hwc : wW G A9 s9.heap (([] : va_W) ++ ((wMd G a (0, m.2.1, m.2.2.1, m.2.2.2.1, m.2.2.2.2.1, m.2.2.2.2.2.1, m.2.2.2.2.2.2)) ++ ([] : va_W))) H locs := hw
    refine r_callv (u := ([] : va_W)) (w := wMd G a (0, m.2.1, m.2.2.1, m.2.2.2.1, m.2.2.2.2.1, m.2.2.2.2.2.1, m.2.2.2.2.2.2)) (v := ([] : va_W)) (va_runV (As := []) (rest := []) ⟨hx, hb, hml, hown, hts⟩ (c_solves l G a (0, m.2.1, m.2.2.1, m.2.2.2.1, m.2.2.2.2.1, m.2.2.2.2.2.1, m.2.2.2.2.2.2) (by first | assumption | omega | decide) H.size) (cwV 0 hts gX5_x_X5_solves rfl rfl rfl (by decide +kernel) ⟨Nat.le_of_ble_eq_true rfl, Nat.le_of_ble_eq_true rfl⟩) (r_preV (ci := 5) (q0 := 0) hK hwc rfl rfl rfl) rfl rfl hl.1 rfl (lv_room (Nat.le_of_ble_eq_true rfl)) dX5_x_20 ⟨Nat.le_of_ble_eq_true rfl, Nat.le_of_ble_eq_true rfl⟩) hwc hA rfl rfl (fun H locs hw => ?_)
    have hw : wW G A9 s9.heap (wMd G a (0, m.2.1, m.2.2.1, (mdSolve m.2.1 m.2.2.2.1), m.2.2.2.2.1, m.2.2.2.2.2.1, m.2.2.2.2.2.2)) H locs := hw
    refine lv_aload_n hx hb dX5_x_23 rfl (lv_at hl 0 rfl) ?_
    refine lv_iconst (v := 0) hx hb dX5_x_24 (by decide) ?_
    refine lv_iload_n hx hb dX5_x_25 rfl (lv_at hl 1 rfl) ?_
    refine r_top (y := nI (iN p)) (nI_iN p) ?_
    have hwc : wW G A9 s9.heap (([] : va_W) ++ ((wMd G a (0, m.2.1, m.2.2.1, (mdSolve m.2.1 m.2.2.2.1), m.2.2.2.2.1, m.2.2.2.2.2.1, m.2.2.2.2.2.2)) ++ ([] : va_W))) H locs := hw
    refine r_calli (res := (mdPl m.2.1 (mdSolve m.2.1 m.2.2.2.1) 0 (iN p))) (u := ([] : va_W)) (w := wMd G a (0, m.2.1, m.2.2.1, (mdSolve m.2.1 m.2.2.2.1), m.2.2.2.2.1, m.2.2.2.2.2.1, m.2.2.2.2.2.2)) (v := ([] : va_W)) (va_runV (As := [.int 0, .int (nI (iN p))]) (rest := []) ⟨hx, hb, hml, hown, hts⟩ (c_place0 l G a (0, m.2.1, m.2.2.1, (mdSolve m.2.1 m.2.2.2.1), m.2.2.2.2.1, m.2.2.2.2.2.1, m.2.2.2.2.2.2) (iN p) (by first | assumption | omega | decide) H.size) (cwV 2 hts gX5_x_X5_placeOf rfl rfl rfl (by decide +kernel) ⟨Nat.le_of_ble_eq_true rfl, Nat.le_of_ble_eq_true rfl⟩) (r_preV (ci := 5) (q0 := 0) hK hwc rfl rfl rfl) rfl rfl hl.1 rfl (lv_room (Nat.le_of_ble_eq_true rfl)) dX5_x_26 ⟨Nat.le_of_ble_eq_true rfl, Nat.le_of_ble_eq_true rfl⟩) hwc hA rfl rfl (fun H locs hw => ?_)
    have hw : wW G A9 s9.heap (wMd G a (0, m.2.1, m.2.2.1, (mdSolve m.2.1 m.2.2.2.1), m.2.2.2.2.1, m.2.2.2.2.2.1, m.2.2.2.2.2.2)) H locs := hw
    exact m_iret hx hb hr hlocks hK hw (Nat.le_of_ble_eq_true rfl) (Nat.le_of_ble_eq_true rfl) dX5_x_29 (show (mdPl m.2.1 (mdSolve m.2.1 m.2.2.2.1) 0 (iN p) : Int32) = (mdXy 0 m p).1 by first | rfl | (simp only [mdXy, if_neg c_10]; first | done | rfl)) (show wMd G a (0, m.2.1, m.2.2.1, (mdSolve m.2.1 m.2.2.2.1), m.2.2.2.2.1, m.2.2.2.2.2.1, m.2.2.2.2.2.2) = wMd G a ((mdXy 0 m p).2) by first | rfl | (simp only [mdXy, if_neg c_10]; first | done | rfl))
  · refine lv_aload_n hx hb dX5_x_13 rfl (lv_at hl 0 rfl) ?_
    refine lv_iconst (v := 1) hx hb dX5_x_14 (by decide) ?_
    have hwc : wW G A9 s9.heap (([] : va_W) ++ ((wMd G a (0, m.2.1, m.2.2.1, m.2.2.2.1, m.2.2.2.2.1, m.2.2.2.2.2.1, m.2.2.2.2.2.2)) ++ ([] : va_W))) H locs := hw
    refine r_calli (res := 0) (u := ([] : va_W)) (w := wMd G a (0, m.2.1, m.2.2.1, m.2.2.2.1, m.2.2.2.2.1, m.2.2.2.2.2.1, m.2.2.2.2.2.2)) (v := ([] : va_W)) (va_runV (As := [.int 1]) (rest := []) ⟨hx, hb, hml, hown, hts⟩ (c_refuses l G a (0, m.2.1, m.2.2.1, m.2.2.2.1, m.2.2.2.2.1, m.2.2.2.2.2.1, m.2.2.2.2.2.2) 1 H.size) (cwV 1 hts gX5_x_X5_refuses rfl rfl rfl (by decide +kernel) ⟨Nat.le_of_ble_eq_true rfl, Nat.le_of_ble_eq_true rfl⟩) (r_preV (ci := 5) (q0 := 0) hK hwc rfl rfl rfl) rfl rfl hl.1 rfl (lv_room (Nat.le_of_ble_eq_true rfl)) dX5_x_15 ⟨Nat.le_of_ble_eq_true rfl, Nat.le_of_ble_eq_true rfl⟩) hwc hA rfl rfl (fun H locs hw => ?_)
    have hw : wW G A9 s9.heap (wMd G a (1, m.2.1, m.2.2.1, m.2.2.2.1, m.2.2.2.2.1, m.2.2.2.2.2.1, m.2.2.2.2.2.2)) H locs := hw
    exact m_iret hx hb hr hlocks hK hw (Nat.le_of_ble_eq_true rfl) (Nat.le_of_ble_eq_true rfl) dX5_x_18 (show (0 : Int32) = (mdXy 0 m p).1 by first | rfl | (simp only [mdXy, if_pos c_10]; first | done | rfl)) (show wMd G a (1, m.2.1, m.2.2.1, m.2.2.2.1, m.2.2.2.2.1, m.2.2.2.2.2.1, m.2.2.2.2.2.2) = wMd G a ((mdXy 0 m p).2) by first | rfl | (simp only [mdXy, if_pos c_10]; first | done | rfl))

theorem wiX5_y_m_y_X5 : ∀ w ∈ wsX50, w ∈ wsX5_y := by decide +kernel
theorem wmX5_y_m_y_0 : Cond.fieldLink RX5 74 "PartSketchModel" "thrown" "I" ∈ wsX5_y := by decide +kernel
set_option maxHeartbeats 4000000 in
set_option maxRecDepth 100000 in
/-- y -/
theorem c_m_y (l : Launch) (G : gT) (a : aMd) (m : tMd) (p : Int32) (hok : mdOk m.2.1) (hnp : m.2.1.1 ≤ 16) (sz : Nat) : MI l yX5_y wsX5_y ({ frames := 2, cells := 0, slots := 0, locals := 53 }) G [.ref (a 0), .int p] (wMd G a m) (wMd G a ((mdXy 1 m p).2)) sz ((mdXy 1 m p).1) 0 0 := by
  refine m_of (Qc := fun A9 => (va_Qi (fun (r9 : Int32) (_ : Unit) => r9 = ((mdXy 1 m p).1)) (fun _ t9 => wPost G A9 (wMd G a ((mdXy 1 m p).2)) t9) A9)) (cc := cX5_y) (maxL := 2) (ret := (some .int)) (by decide) rfl (Nat.le_of_ble_eq_true rfl) ?_
  intro p9 e9 s9 m9 A9 be9 mt9 c9 H locs ls hx hb hr hts hown hlocks hin hml hK hA hw hl
  have hl : lv_has ls 2 [(0, .ref (a 0)), (1, .int p)] := hl
  refine lv_aload_n hx hb dX5_y_0 rfl (lv_at hl 0 rfl) ?_
  refine lv_iconst (v := 0) hx hb dX5_y_1 (by decide) ?_
  refine r_put (ci := 5) (v := .int 0) (ty := .int) (C := RX5) (T := TX5) (N := 29) hx hb hts wiX5_y_m_y_X5 tyX5 tyX5_ok nmX5 hown hK hw 0 rfl rfl 0 (by decide) wmX5_y_m_y_0 (fun _ h9 => h9) rfl (by decide +kernel) rfl rfl (Nat.le_of_ble_eq_true rfl) dX5_y_2 (ws' := wMd G a (0, m.2.1, m.2.2.1, m.2.2.2.1, m.2.2.2.2.1, m.2.2.2.2.2.1, m.2.2.2.2.2.2)) rfl (fun H locs hw => ?_)
  refine lv_aload_n hx hb dX5_y_5 rfl (lv_at hl 0 rfl) ?_
  refine lv_iload_n hx hb dX5_y_6 rfl (lv_at hl 1 rfl) ?_
  have hwc : wW G A9 s9.heap (([] : va_W) ++ ((wMd G a (0, m.2.1, m.2.2.1, m.2.2.2.1, m.2.2.2.2.1, m.2.2.2.2.2.1, m.2.2.2.2.2.2)) ++ ([] : va_W))) H locs := hw
  refine r_calli (res := (mdIn p 0 (nI m.2.1.1 - 1))) (u := ([] : va_W)) (w := wMd G a (0, m.2.1, m.2.2.1, m.2.2.2.1, m.2.2.2.2.1, m.2.2.2.2.2.1, m.2.2.2.2.2.2)) (v := ([] : va_W)) (va_runV (As := [.int p]) (rest := []) ⟨hx, hb, hml, hown, hts⟩ (c_ispoint l G a (0, m.2.1, m.2.2.1, m.2.2.2.1, m.2.2.2.2.1, m.2.2.2.2.2.1, m.2.2.2.2.2.2) p H.size) (cwV 1 hts gX5_y_X5_isPoint rfl rfl rfl (by decide +kernel) ⟨Nat.le_of_ble_eq_true rfl, Nat.le_of_ble_eq_true rfl⟩) (r_preV (ci := 5) (q0 := 0) hK hwc rfl rfl rfl) rfl rfl hl.1 rfl (lv_room (Nat.le_of_ble_eq_true rfl)) dX5_y_7 ⟨Nat.le_of_ble_eq_true rfl, Nat.le_of_ble_eq_true rfl⟩) hwc hA rfl rfl (fun H locs hw => ?_)
  have hw : wW G A9 s9.heap (wMd G a (0, m.2.1, m.2.2.1, m.2.2.2.1, m.2.2.2.2.1, m.2.2.2.2.2.1, m.2.2.2.2.2.2)) H locs := hw
  refine lv_if_ne (tgt := 19) hx hb dX5_y_10 (by decide) (fun c_10 => ?_) (fun c_10 => ?_)
  · have hpl : iN p < m.2.1.1 := mdIn_lt (by omega) c_10
    refine lv_aload_n hx hb dX5_y_19 rfl (lv_at hl 0 rfl) ?_
    have hwc : wW G A9 s9.heap (([] : va_W) ++ ((wMd G a (0, m.2.1, m.2.2.1, m.2.2.2.1, m.2.2.2.2.1, m.2.2.2.2.2.1, m.2.2.2.2.2.2)) ++ ([] : va_W))) H locs := hw
    refine r_callv (u := ([] : va_W)) (w := wMd G a (0, m.2.1, m.2.2.1, m.2.2.2.1, m.2.2.2.2.1, m.2.2.2.2.2.1, m.2.2.2.2.2.2)) (v := ([] : va_W)) (va_runV (As := []) (rest := []) ⟨hx, hb, hml, hown, hts⟩ (c_solves l G a (0, m.2.1, m.2.2.1, m.2.2.2.1, m.2.2.2.2.1, m.2.2.2.2.2.1, m.2.2.2.2.2.2) (by first | assumption | omega | decide) H.size) (cwV 0 hts gX5_y_X5_solves rfl rfl rfl (by decide +kernel) ⟨Nat.le_of_ble_eq_true rfl, Nat.le_of_ble_eq_true rfl⟩) (r_preV (ci := 5) (q0 := 0) hK hwc rfl rfl rfl) rfl rfl hl.1 rfl (lv_room (Nat.le_of_ble_eq_true rfl)) dX5_y_20 ⟨Nat.le_of_ble_eq_true rfl, Nat.le_of_ble_eq_true rfl⟩) hwc hA rfl rfl (fun H locs hw => ?_)
    have hw : wW G A9 s9.heap (wMd G a (0, m.2.1, m.2.2.1, (mdSolve m.2.1 m.2.2.2.1), m.2.2.2.2.1, m.2.2.2.2.2.1, m.2.2.2.2.2.2)) H locs := hw
    refine lv_aload_n hx hb dX5_y_23 rfl (lv_at hl 0 rfl) ?_
    refine lv_iconst (v := 1) hx hb dX5_y_24 (by decide) ?_
    refine lv_iload_n hx hb dX5_y_25 rfl (lv_at hl 1 rfl) ?_
    refine r_top (y := nI (iN p)) (nI_iN p) ?_
    have hwc : wW G A9 s9.heap (([] : va_W) ++ ((wMd G a (0, m.2.1, m.2.2.1, (mdSolve m.2.1 m.2.2.2.1), m.2.2.2.2.1, m.2.2.2.2.2.1, m.2.2.2.2.2.2)) ++ ([] : va_W))) H locs := hw
    refine r_calli (res := (mdPl m.2.1 (mdSolve m.2.1 m.2.2.2.1) 1 (iN p))) (u := ([] : va_W)) (w := wMd G a (0, m.2.1, m.2.2.1, (mdSolve m.2.1 m.2.2.2.1), m.2.2.2.2.1, m.2.2.2.2.2.1, m.2.2.2.2.2.2)) (v := ([] : va_W)) (va_runV (As := [.int 1, .int (nI (iN p))]) (rest := []) ⟨hx, hb, hml, hown, hts⟩ (c_place1 l G a (0, m.2.1, m.2.2.1, (mdSolve m.2.1 m.2.2.2.1), m.2.2.2.2.1, m.2.2.2.2.2.1, m.2.2.2.2.2.2) (iN p) (by first | assumption | omega | decide) H.size) (cwV 2 hts gX5_y_X5_placeOf rfl rfl rfl (by decide +kernel) ⟨Nat.le_of_ble_eq_true rfl, Nat.le_of_ble_eq_true rfl⟩) (r_preV (ci := 5) (q0 := 0) hK hwc rfl rfl rfl) rfl rfl hl.1 rfl (lv_room (Nat.le_of_ble_eq_true rfl)) dX5_y_26 ⟨Nat.le_of_ble_eq_true rfl, Nat.le_of_ble_eq_true rfl⟩) hwc hA rfl rfl (fun H locs hw => ?_)
    have hw : wW G A9 s9.heap (wMd G a (0, m.2.1, m.2.2.1, (mdSolve m.2.1 m.2.2.2.1), m.2.2.2.2.1, m.2.2.2.2.2.1, m.2.2.2.2.2.2)) H locs := hw
    exact m_iret hx hb hr hlocks hK hw (Nat.le_of_ble_eq_true rfl) (Nat.le_of_ble_eq_true rfl) dX5_y_29 (show (mdPl m.2.1 (mdSolve m.2.1 m.2.2.2.1) 1 (iN p) : Int32) = (mdXy 1 m p).1 by first | rfl | (simp only [mdXy, if_neg c_10]; first | done | rfl)) (show wMd G a (0, m.2.1, m.2.2.1, (mdSolve m.2.1 m.2.2.2.1), m.2.2.2.2.1, m.2.2.2.2.2.1, m.2.2.2.2.2.2) = wMd G a ((mdXy 1 m p).2) by first | rfl | (simp only [mdXy, if_neg c_10]; first | done | rfl))
  · refine lv_aload_n hx hb dX5_y_13 rfl (lv_at hl 0 rfl) ?_
    refine lv_iconst (v := 1) hx hb dX5_y_14 (by decide) ?_
    have hwc : wW G A9 s9.heap (([] : va_W) ++ ((wMd G a (0, m.2.1, m.2.2.1, m.2.2.2.1, m.2.2.2.2.1, m.2.2.2.2.2.1, m.2.2.2.2.2.2)) ++ ([] : va_W))) H locs := hw
    refine r_calli (res := 0) (u := ([] : va_W)) (w := wMd G a (0, m.2.1, m.2.2.1, m.2.2.2.1, m.2.2.2.2.1, m.2.2.2.2.2.1, m.2.2.2.2.2.2)) (v := ([] : va_W)) (va_runV (As := [.int 1]) (rest := []) ⟨hx, hb, hml, hown, hts⟩ (c_refuses l G a (0, m.2.1, m.2.2.1, m.2.2.2.1, m.2.2.2.2.1, m.2.2.2.2.2.1, m.2.2.2.2.2.2) 1 H.size) (cwV 1 hts gX5_y_X5_refuses rfl rfl rfl (by decide +kernel) ⟨Nat.le_of_ble_eq_true rfl, Nat.le_of_ble_eq_true rfl⟩) (r_preV (ci := 5) (q0 := 0) hK hwc rfl rfl rfl) rfl rfl hl.1 rfl (lv_room (Nat.le_of_ble_eq_true rfl)) dX5_y_15 ⟨Nat.le_of_ble_eq_true rfl, Nat.le_of_ble_eq_true rfl⟩) hwc hA rfl rfl (fun H locs hw => ?_)
    have hw : wW G A9 s9.heap (wMd G a (1, m.2.1, m.2.2.1, m.2.2.2.1, m.2.2.2.2.1, m.2.2.2.2.2.1, m.2.2.2.2.2.2)) H locs := hw
    exact m_iret hx hb hr hlocks hK hw (Nat.le_of_ble_eq_true rfl) (Nat.le_of_ble_eq_true rfl) dX5_y_18 (show (0 : Int32) = (mdXy 1 m p).1 by first | rfl | (simp only [mdXy, if_pos c_10]; first | done | rfl)) (show wMd G a (1, m.2.1, m.2.2.1, m.2.2.2.1, m.2.2.2.2.1, m.2.2.2.2.2.1, m.2.2.2.2.2.2) = wMd G a ((mdXy 1 m p).2) by first | rfl | (simp only [mdXy, if_pos c_10]; first | done | rfl))

theorem wiX5_freedom_m_freedom_X5 : ∀ w ∈ wsX50, w ∈ wsX5_freedom := by decide +kernel
theorem wmX5_freedom_m_freedom_0 : Cond.fieldLink RX5 74 "PartSketchModel" "thrown" "I" ∈ wsX5_freedom := by decide +kernel
theorem wmX5_freedom_m_freedom_1 : Cond.fieldLink RX5 38 "PartSketchModel" "group" "[I" ∈ wsX5_freedom := by decide +kernel
theorem wmX5_freedom_m_freedom_2 : Cond.fieldLink RX5 82 "PartSketchModel" "points" "I" ∈ wsX5_freedom := by decide +kernel
set_option maxHeartbeats 4000000 in
set_option maxRecDepth 100000 in
/-- freedom -/
theorem c_m_freedom (l : Launch) (G : gT) (a : aMd) (m : tMd) (hok : mdOk m.2.1) (hnp : m.2.1.1 ≤ 16) (sz : Nat) : MI l yX5_freedom wsX5_freedom ({ frames := 2, cells := 0, slots := 0, locals := 53 }) G [.ref (a 0)] (wMd G a m) (wMd G a (0, m.2.1, m.2.2.1, (mdSolve m.2.1 m.2.2.2.1), m.2.2.2.2.1, m.2.2.2.2.2.1, m.2.2.2.2.2.2)) sz (mdFree (mdSolve m.2.1 m.2.2.2.1).2.1 m.2.1.1 34) 0 0 := by
  refine m_of (Qc := fun A9 => (va_Qi (fun (r9 : Int32) (_ : Unit) => r9 = (mdFree (mdSolve m.2.1 m.2.2.2.1).2.1 m.2.1.1 34)) (fun _ t9 => wPost G A9 (wMd G a (0, m.2.1, m.2.2.1, (mdSolve m.2.1 m.2.2.2.1), m.2.2.2.2.1, m.2.2.2.2.2.1, m.2.2.2.2.2.2)) t9) A9)) (cc := cX5_freedom) (maxL := 6) (ret := (some .int)) (by decide) rfl (Nat.le_of_ble_eq_true rfl) ?_
  intro p9 e9 s9 m9 A9 be9 mt9 c9 H locs ls hx hb hr hts hown hlocks hin hml hK hA hw hl
  have hl : lv_has ls 6 [(0, .ref (a 0))] := hl
  refine lv_aload_n hx hb dX5_freedom_0 rfl (lv_at hl 0 rfl) ?_
  refine lv_iconst (v := 0) hx hb dX5_freedom_1 (by decide) ?_
  refine r_put (ci := 5) (v := .int 0) (ty := .int) (C := RX5) (T := TX5) (N := 29) hx hb hts wiX5_freedom_m_freedom_X5 tyX5 tyX5_ok nmX5 hown hK hw 0 rfl rfl 0 (by decide) wmX5_freedom_m_freedom_0 (fun _ h9 => h9) rfl (by decide +kernel) rfl rfl (Nat.le_of_ble_eq_true rfl) dX5_freedom_2 (ws' := wMd G a (0, m.2.1, m.2.2.1, m.2.2.2.1, m.2.2.2.2.1, m.2.2.2.2.2.1, m.2.2.2.2.2.2)) rfl (fun H locs hw => ?_)
  refine lv_aload_n hx hb dX5_freedom_5 rfl (lv_at hl 0 rfl) ?_
  have hwc : wW G A9 s9.heap (([] : va_W) ++ ((wMd G a (0, m.2.1, m.2.2.1, m.2.2.2.1, m.2.2.2.2.1, m.2.2.2.2.2.1, m.2.2.2.2.2.2)) ++ ([] : va_W))) H locs := hw
  refine r_callv (u := ([] : va_W)) (w := wMd G a (0, m.2.1, m.2.2.1, m.2.2.2.1, m.2.2.2.2.1, m.2.2.2.2.2.1, m.2.2.2.2.2.2)) (v := ([] : va_W)) (va_runV (As := []) (rest := []) ⟨hx, hb, hml, hown, hts⟩ (c_solves l G a (0, m.2.1, m.2.2.1, m.2.2.2.1, m.2.2.2.2.1, m.2.2.2.2.2.1, m.2.2.2.2.2.2) (by first | assumption | omega | decide) H.size) (cwV 0 hts gX5_freedom_X5_solves rfl rfl rfl (by decide +kernel) ⟨Nat.le_of_ble_eq_true rfl, Nat.le_of_ble_eq_true rfl⟩) (r_preV (ci := 5) (q0 := 0) hK hwc rfl rfl rfl) rfl rfl hl.1 rfl (lv_room (Nat.le_of_ble_eq_true rfl)) dX5_freedom_6 ⟨Nat.le_of_ble_eq_true rfl, Nat.le_of_ble_eq_true rfl⟩) hwc hA rfl rfl (fun H locs hw => ?_)
  have hw : wW G A9 s9.heap (wMd G a (0, m.2.1, m.2.2.1, (mdSolve m.2.1 m.2.2.2.1), m.2.2.2.2.1, m.2.2.2.2.2.1, m.2.2.2.2.2.2)) H locs := hw
  refine lv_iconst (v := 0) hx hb dX5_freedom_9 (by decide) ?_
  refine lv_istore_n (lv' := [(1, .int 0), (0, .ref (a 0))]) hx hb dX5_freedom_10 rfl hl (by decide) rfl (fun ls hl => ?_)
  refine lv_iconst (v := 0) hx hb dX5_freedom_11 (by decide) ?_
  refine lv_istore_n (lv' := [(2, .int 0), (1, .int 0), (0, .ref (a 0))]) hx hb dX5_freedom_12 rfl hl (by decide) rfl (fun ls hl => ?_)
  have loop_13 : ∀ (nf : Nat) (k : Nat) (hnf : (34 - k) < nf) (hk : k ≤ 34), ∀ (H : Heap) (locs : List Loc) (ls : Array Slot), wW G A9 s9.heap (wMd G a (0, m.2.1, m.2.2.1, (mdSolve m.2.1 m.2.2.2.1), m.2.2.2.2.1, m.2.2.2.2.2.1, m.2.2.2.2.2.2)) H locs → lv_has ls 6 [(0, .ref (a 0)), (1, .int (mdFree (mdSolve m.2.1 m.2.2.2.1).2.1 m.2.1.1 k)), (2, .int (nI k))] → W p9 l e9 ({ frames := 2, cells := 0, slots := 0, locals := 53 }) s9 m9 [.ref (a 0)].toArray be9 mt9 c9 H locs 0 0 (MQ be9 (va_Qi (fun (r9 : Int32) (_ : Unit) => r9 = (mdFree (mdSolve m.2.1 m.2.2.2.1).2.1 m.2.1.1 34)) (fun _ t9 => wPost G A9 (wMd G a (0, m.2.1, m.2.2.1, (mdSolve m.2.1 m.2.2.2.1), m.2.2.2.2.1, m.2.2.2.2.2.1, m.2.2.2.2.2.2)) t9) A9) [.ref (a 0)].toArray s9 0 0 A9) (F0 m9 13 ls []) := by
    intro nf
    induction nf with
    | zero => intro k hnf hk; exact absurd hnf (Nat.not_lt_zero _)
    | succ nf ih_13 =>
      intro k hnf hk H locs ls hw hl
      refine lv_iload_n hx hb dX5_freedom_13 rfl (lv_at hl 2 rfl) ?_
      refine lv_bipush (v := 34) hx hb dX5_freedom_14 (by decide) ?_
      refine lv_icmp_ge (tgt := 128) hx hb dX5_freedom_16 (by decide) (fun c_16 => ?_) (fun c_16 => ?_)
      · have hx_16 : 34 ≤ k := ct_ge (k := k) (n := 34) (by omega) (by omega) c_16
        refine lv_iload_n hx hb dX5_freedom_128 rfl (lv_at hl 1 rfl) ?_
        exact m_iret hx hb hr hlocks hK hw (Nat.le_of_ble_eq_true rfl) (Nat.le_of_ble_eq_true rfl) dX5_freedom_129 (show (mdFree (mdSolve m.2.1 m.2.2.2.1).2.1 m.2.1.1 k : Int32) = mdFree (mdSolve m.2.1 m.2.2.2.1).2.1 m.2.1.1 34 by rw [show k = 34 by omega]) rfl
      · have hc_16 : k < 34 := ct_nge (k := k) (n := 34) (by omega) (by omega) c_16
        have hmd : 17 * (k / 17) + k % 17 = k := Nat.div_add_mod k 17
        have hm17 : k % 17 < 17 := Nat.mod_lt _ (by omega)
        have hd2 : k / 17 < 2 := by omega
        refine lv_iload_n hx hb dX5_freedom_19 rfl (lv_at hl 2 rfl) ?_
        refine lv_bipush (v := 17) hx hb dX5_freedom_20 (by decide) ?_
        refine lv_idiv hx hb dX5_freedom_22 (by decide) ?_
        refine r_top (y := nI (k / 17)) (pk_div (a := k) (d := 17) (by omega) (by omega) (by omega)) ?_
        refine lv_istore_n (lv' := [(3, .int (nI (k / 17))), (0, .ref (a 0)), (1, .int (mdFree (mdSolve m.2.1 m.2.2.2.1).2.1 m.2.1.1 k)), (2, .int (nI k))]) hx hb dX5_freedom_23 rfl hl (by decide) rfl (fun ls hl => ?_)
        have join_61 : ∀ (v : Int32) (hv : v = mdFr0 (mdSolve m.2.1 m.2.2.2.1).2.1 m.2.1.1 k) (H : Heap) (locs : List Loc) (ls : Array Slot), wW G A9 s9.heap (wMd G a (0, m.2.1, m.2.2.1, (mdSolve m.2.1 m.2.2.2.1), m.2.2.2.2.1, m.2.2.2.2.2.1, m.2.2.2.2.2.2)) H locs → lv_has ls 6 [(0, .ref (a 0)), (1, .int (mdFree (mdSolve m.2.1 m.2.2.2.1).2.1 m.2.1.1 k)), (2, .int (nI k)), (3, .int (nI (k / 17)))] → W p9 l e9 ({ frames := 2, cells := 0, slots := 0, locals := 53 }) s9 m9 [.ref (a 0)].toArray be9 mt9 c9 H locs 0 0 (MQ be9 (va_Qi (fun (r9 : Int32) (_ : Unit) => r9 = (mdFree (mdSolve m.2.1 m.2.2.2.1).2.1 m.2.1.1 34)) (fun _ t9 => wPost G A9 (wMd G a (0, m.2.1, m.2.2.1, (mdSolve m.2.1 m.2.2.2.1), m.2.2.2.2.1, m.2.2.2.2.2.1, m.2.2.2.2.2.2)) t9) A9) [.ref (a 0)].toArray s9 0 0 A9) (F0 m9 61 ls [.int v]) := by
          intro v hv H locs ls hw hl
          refine lv_istore (lv' := [(4, .int v), (0, .ref (a 0)), (1, .int (mdFree (mdSolve m.2.1 m.2.2.2.1).2.1 m.2.1.1 k)), (2, .int (nI k)), (3, .int (nI (k / 17)))]) hx hb dX5_freedom_61 hl (by decide) rfl (fun ls hl => ?_)
          subst hv
          have hl : lv_has ls 6 [(4, .int (mdFrK (mdSolve m.2.1 m.2.2.2.1).2.1 m.2.1.1 k 0)), (0, .ref (a 0)), (1, .int (mdFree (mdSolve m.2.1 m.2.2.2.1).2.1 m.2.1.1 k)), (2, .int (nI k)), (3, .int (nI (k / 17)))] := hl
          refine lv_bipush (v := 17) hx hb dX5_freedom_63 (by decide) ?_
          refine lv_iload_n hx hb dX5_freedom_65 rfl (lv_at hl 4 rfl) ?_
          refine lv_imul hx hb dX5_freedom_66 ?_
          refine r_top (y := nI (17 * (k / 17))) (pk_mul 17 (k / 17)) ?_
          refine lv_istore (lv' := [(5, .int (nI (17 * (k / 17)))), (4, .int (mdFrK (mdSolve m.2.1 m.2.2.2.1).2.1 m.2.1.1 k 0)), (0, .ref (a 0)), (1, .int (mdFree (mdSolve m.2.1 m.2.2.2.1).2.1 m.2.1.1 k)), (2, .int (nI k)), (3, .int (nI (k / 17)))]) hx hb dX5_freedom_67 hl (by decide) rfl (fun ls hl => ?_)
          have loop_69 : ∀ (nf : Nat) (j : Nat) (hnf : (k % 17 - j) < nf) (hj : j ≤ k % 17), ∀ (H : Heap) (locs : List Loc) (ls : Array Slot), wW G A9 s9.heap (wMd G a (0, m.2.1, m.2.2.1, (mdSolve m.2.1 m.2.2.2.1), m.2.2.2.2.1, m.2.2.2.2.2.1, m.2.2.2.2.2.2)) H locs → lv_has ls 6 [(0, .ref (a 0)), (1, .int (mdFree (mdSolve m.2.1 m.2.2.2.1).2.1 m.2.1.1 k)), (2, .int (nI k)), (3, .int (nI (k / 17))), (4, .int (mdFrK (mdSolve m.2.1 m.2.2.2.1).2.1 m.2.1.1 k j)), (5, .int (nI (17 * (k / 17) + j)))] → W p9 l e9 ({ frames := 2, cells := 0, slots := 0, locals := 53 }) s9 m9 [.ref (a 0)].toArray be9 mt9 c9 H locs 0 0 (MQ be9 (va_Qi (fun (r9 : Int32) (_ : Unit) => r9 = (mdFree (mdSolve m.2.1 m.2.2.2.1).2.1 m.2.1.1 34)) (fun _ t9 => wPost G A9 (wMd G a (0, m.2.1, m.2.2.1, (mdSolve m.2.1 m.2.2.2.1), m.2.2.2.2.1, m.2.2.2.2.2.1, m.2.2.2.2.2.2)) t9) A9) [.ref (a 0)].toArray s9 0 0 A9) (F0 m9 69 ls []) := by
            intro nf
            induction nf with
            | zero => intro j hnf hj; exact absurd hnf (Nat.not_lt_zero _)
            | succ nf ih_69 =>
              intro j hnf hj H locs ls hw hl
              refine lv_iload hx hb dX5_freedom_69 (lv_at hl 5 rfl) ?_
              refine lv_iload_n hx hb dX5_freedom_71 rfl (lv_at hl 2 rfl) ?_
              refine lv_icmp_ge (tgt := 109) hx hb dX5_freedom_72 (by decide) (fun c_72 => ?_) (fun c_72 => ?_)
              · have hx_72 : k ≤ 17 * (k / 17) + j := ct_ge (k := 17 * (k / 17) + j) (n := k) (by omega) (by omega) c_72
                have join_120 : ∀ (z : Int32) (hz : z = if mdFrK (mdSolve m.2.1 m.2.2.2.1).2.1 m.2.1.1 k (k % 17) = 0 then 0 else 1) (H : Heap) (locs : List Loc) (ls : Array Slot), wW G A9 s9.heap (wMd G a (0, m.2.1, m.2.2.1, (mdSolve m.2.1 m.2.2.2.1), m.2.2.2.2.1, m.2.2.2.2.2.1, m.2.2.2.2.2.2)) H locs → lv_has ls 6 [(0, .ref (a 0)), (1, .int (mdFree (mdSolve m.2.1 m.2.2.2.1).2.1 m.2.1.1 k)), (2, .int (nI k)), (3, .int (nI (k / 17))), (4, .int (mdFrK (mdSolve m.2.1 m.2.2.2.1).2.1 m.2.1.1 k j)), (5, .int (nI (17 * (k / 17) + j)))] → W p9 l e9 ({ frames := 2, cells := 0, slots := 0, locals := 53 }) s9 m9 [.ref (a 0)].toArray be9 mt9 c9 H locs 0 0 (MQ be9 (va_Qi (fun (r9 : Int32) (_ : Unit) => r9 = (mdFree (mdSolve m.2.1 m.2.2.2.1).2.1 m.2.1.1 34)) (fun _ t9 => wPost G A9 (wMd G a (0, m.2.1, m.2.2.1, (mdSolve m.2.1 m.2.2.2.1), m.2.2.2.2.1, m.2.2.2.2.2.1, m.2.2.2.2.2.2)) t9) A9) [.ref (a 0)].toArray s9 0 0 A9) (F0 m9 120 ls [.int z, .int (mdFree (mdSolve m.2.1 m.2.2.2.1).2.1 m.2.1.1 k)]) := by
                  intro z hz H locs ls hw hl
                  refine lv_iadd hx hb dX5_freedom_120 ?_
                  refine lv_istore_n (lv' := [(1, .int ((mdFree (mdSolve m.2.1 m.2.2.2.1).2.1 m.2.1.1 k) + z)), (0, .ref (a 0)), (2, .int (nI k)), (3, .int (nI (k / 17))), (4, .int (mdFrK (mdSolve m.2.1 m.2.2.2.1).2.1 m.2.1.1 k j)), (5, .int (nI (17 * (k / 17) + j)))]) hx hb dX5_freedom_121 rfl hl (by decide) rfl (fun ls hl => ?_)
                  refine lv_iinc (v := nI (k + 1)) (lv' := [(2, .int (nI (k + 1))), (1, .int ((mdFree (mdSolve m.2.1 m.2.2.2.1).2.1 m.2.1.1 k) + z)), (0, .ref (a 0)), (3, .int (nI (k / 17))), (4, .int (mdFrK (mdSolve m.2.1 m.2.2.2.1).2.1 m.2.1.1 k j)), (5, .int (nI (17 * (k / 17) + j)))]) hx hb dX5_freedom_122 hl (k := 2) rfl (nI_add k 1) (by decide) rfl (fun ls hl => ?_)
                  refine lv_goto (tgt := 13) hx hb dX5_freedom_125 (by decide) ?_
                  exact ih_13 (k + 1) (by omega) (by first | assumption | omega | rfl) _ _ _ hw (lv_sub hl [2, 1, 0] (show lv_pick [(2, .int (nI (k + 1))), (1, .int ((mdFree (mdSolve m.2.1 m.2.2.2.1).2.1 m.2.1.1 k) + z)), (0, .ref (a 0)), (3, .int (nI (k / 17))), (4, .int (mdFrK (mdSolve m.2.1 m.2.2.2.1).2.1 m.2.1.1 k j)), (5, .int (nI (17 * (k / 17) + j)))] [2, 1, 0] = [(0, .ref (a 0)), (1, .int (mdFree (mdSolve m.2.1 m.2.2.2.1).2.1 m.2.1.1 (k + 1))), (2, .int (nI (k + 1)))] by rw [hz]; rfl))
                refine lv_iload_n hx hb dX5_freedom_109 rfl (lv_at hl 1 rfl) ?_
                refine lv_iload hx hb dX5_freedom_110 (lv_at hl 4 rfl) ?_
                refine lv_if_eq (tgt := 119) hx hb dX5_freedom_112 (by decide) (fun c_112 => ?_) (fun c_112 => ?_)
                · refine lv_iconst (v := 0) hx hb dX5_freedom_119 (by decide) ?_
                  exact join_120 0 (by rw [show j = k % 17 by omega] at c_112; simp only [if_pos c_112]) _ _ _ hw (lv_sub hl [0, 1, 2, 3, 4, 5] rfl)
                · refine lv_iconst (v := 1) hx hb dX5_freedom_115 (by decide) ?_
                  refine lv_goto (tgt := 120) hx hb dX5_freedom_116 (by decide) ?_
                  exact join_120 1 (by rw [show j = k % 17 by omega] at c_112; simp only [if_neg c_112]) _ _ _ hw (lv_sub hl [0, 1, 2, 3, 4, 5] rfl)
              · have hc_72 : 17 * (k / 17) + j < k := ct_nge (k := 17 * (k / 17) + j) (n := k) (by omega) (by omega) c_72
                have join_101 : ∀ (v2 : Int32) (hv2 : v2 = mdFrK (mdSolve m.2.1 m.2.2.2.1).2.1 m.2.1.1 k (j + 1)) (H : Heap) (locs : List Loc) (ls : Array Slot), wW G A9 s9.heap (wMd G a (0, m.2.1, m.2.2.1, (mdSolve m.2.1 m.2.2.2.1), m.2.2.2.2.1, m.2.2.2.2.2.1, m.2.2.2.2.2.2)) H locs → lv_has ls 6 [(0, .ref (a 0)), (1, .int (mdFree (mdSolve m.2.1 m.2.2.2.1).2.1 m.2.1.1 k)), (2, .int (nI k)), (3, .int (nI (k / 17))), (4, .int (mdFrK (mdSolve m.2.1 m.2.2.2.1).2.1 m.2.1.1 k j)), (5, .int (nI (17 * (k / 17) + j)))] → W p9 l e9 ({ frames := 2, cells := 0, slots := 0, locals := 53 }) s9 m9 [.ref (a 0)].toArray be9 mt9 c9 H locs 0 0 (MQ be9 (va_Qi (fun (r9 : Int32) (_ : Unit) => r9 = (mdFree (mdSolve m.2.1 m.2.2.2.1).2.1 m.2.1.1 34)) (fun _ t9 => wPost G A9 (wMd G a (0, m.2.1, m.2.2.1, (mdSolve m.2.1 m.2.2.2.1), m.2.2.2.2.1, m.2.2.2.2.2.1, m.2.2.2.2.2.2)) t9) A9) [.ref (a 0)].toArray s9 0 0 A9) (F0 m9 101 ls [.int v2]) := by
                  intro v2 hv2 H locs ls hw hl
                  refine lv_istore (lv' := [(4, .int v2), (0, .ref (a 0)), (1, .int (mdFree (mdSolve m.2.1 m.2.2.2.1).2.1 m.2.1.1 k)), (2, .int (nI k)), (3, .int (nI (k / 17))), (5, .int (nI (17 * (k / 17) + j)))]) hx hb dX5_freedom_101 hl (by decide) rfl (fun ls hl => ?_)
                  refine lv_iinc (v := nI ((17 * (k / 17) + j) + 1)) (lv' := [(5, .int (nI ((17 * (k / 17) + j) + 1))), (4, .int v2), (0, .ref (a 0)), (1, .int (mdFree (mdSolve m.2.1 m.2.2.2.1).2.1 m.2.1.1 k)), (2, .int (nI k)), (3, .int (nI (k / 17)))]) hx hb dX5_freedom_103 hl (k := 5) rfl (nI_add (17 * (k / 17) + j) 1) (by decide) rfl (fun ls hl => ?_)
                  refine lv_goto (tgt := 69) hx hb dX5_freedom_106 (by decide) ?_
                  exact ih_69 (j + 1) (by omega) (by first | assumption | omega | rfl) _ _ _ hw (lv_sub hl [2, 3, 4, 5, 1, 0] (show lv_pick [(5, .int (nI ((17 * (k / 17) + j) + 1))), (4, .int v2), (0, .ref (a 0)), (1, .int (mdFree (mdSolve m.2.1 m.2.2.2.1).2.1 m.2.1.1 k)), (2, .int (nI k)), (3, .int (nI (k / 17)))] [2, 3, 4, 5, 1, 0] = [(0, .ref (a 0)), (1, .int (mdFree (mdSolve m.2.1 m.2.2.2.1).2.1 m.2.1.1 k)), (2, .int (nI k)), (3, .int (nI (k / 17))), (4, .int (mdFrK (mdSolve m.2.1 m.2.2.2.1).2.1 m.2.1.1 k (j + 1))), (5, .int (nI (17 * (k / 17) + (j + 1))))] by rw [hv2]; rfl))
                refine lv_iload hx hb dX5_freedom_75 (lv_at hl 4 rfl) ?_
                refine lv_if_eq (tgt := 100) hx hb dX5_freedom_77 (by decide) (fun c_77 => ?_) (fun c_77 => ?_)
                · refine lv_iconst (v := 0) hx hb dX5_freedom_100 (by decide) ?_
                  exact join_101 0 (by simp only [mdFrK, if_pos c_77]) _ _ _ hw (lv_sub hl [0, 1, 2, 3, 4, 5] rfl)
                · refine lv_aload_n hx hb dX5_freedom_80 rfl (lv_at hl 0 rfl) ?_
                  refine r_get (ci := 5) (v := .ref (a 10)) (C := RX5) (T := TX5) (N := 29) hx hb hts wiX5_freedom_m_freedom_X5 hown hK hw 0 rfl rfl 12 (by decide) wmX5_freedom_m_freedom_1 (fun _ h9 => h9) rfl dX5_freedom_81 ?_
                  refine lv_iload hx hb dX5_freedom_84 (lv_at hl 5 rfl) ?_
                  refine r_iald (v := ((mdSolve m.2.1 m.2.2.2.1).2.1) (17 * (k / 17) + j)) hx hb hK hw 10 rfl (17 * (k / 17) + j) rfl (by omega) (by decide) rfl dX5_freedom_86 ?_
                  refine lv_aload_n hx hb dX5_freedom_87 rfl (lv_at hl 0 rfl) ?_
                  refine r_get (ci := 5) (v := .ref (a 10)) (C := RX5) (T := TX5) (N := 29) hx hb hts wiX5_freedom_m_freedom_X5 hown hK hw 0 rfl rfl 12 (by decide) wmX5_freedom_m_freedom_1 (fun _ h9 => h9) rfl dX5_freedom_88 ?_
                  refine lv_iload_n hx hb dX5_freedom_91 rfl (lv_at hl 2 rfl) ?_
                  refine r_iald (v := ((mdSolve m.2.1 m.2.2.2.1).2.1) k) hx hb hK hw 10 rfl k rfl (by omega) (by decide) rfl dX5_freedom_92 ?_
                  refine lv_icmp_eq (tgt := 100) hx hb dX5_freedom_93 (by decide) (fun c_93 => ?_) (fun c_93 => ?_)
                  · refine lv_iconst (v := 0) hx hb dX5_freedom_100 (by decide) ?_
                    exact join_101 0 (by simp only [mdFrK, if_neg c_77, if_pos c_93]) _ _ _ hw (lv_sub hl [0, 1, 2, 3, 4, 5] rfl)
                  · refine lv_iconst (v := 1) hx hb dX5_freedom_96 (by decide) ?_
                    refine lv_goto (tgt := 101) hx hb dX5_freedom_97 (by decide) ?_
                    exact join_101 1 (by simp only [mdFrK, if_neg c_77, if_neg c_93]) _ _ _ hw (lv_sub hl [0, 1, 2, 3, 4, 5] rfl)
          exact loop_69 ((k % 17 - 0) + 1) 0 (Nat.lt_succ_self _) (by first | assumption | omega | rfl) _ _ _ hw (lv_sub hl [2, 3, 4, 5, 1, 0] rfl)
        refine lv_iload_n hx hb dX5_freedom_24 rfl (lv_at hl 3 rfl) ?_
        refine lv_bipush (v := 17) hx hb dX5_freedom_25 (by decide) ?_
        refine lv_irem hx hb dX5_freedom_27 (by decide) ?_
        refine r_top (y := nI (k % 17)) (pk_rem (a := k) (d := 17) (by omega) (by omega) (by omega)) ?_
        refine lv_aload_n hx hb dX5_freedom_28 rfl (lv_at hl 1 rfl) ?_
        refine r_get (ci := 5) (v := .int (nI m.2.1.1)) (C := RX5) (T := TX5) (N := 29) hx hb hts wiX5_freedom_m_freedom_X5 hown hK hw 0 rfl rfl 1 (by decide) wmX5_freedom_m_freedom_2 (fun _ h9 => h9) rfl dX5_freedom_29 ?_
        refine lv_icmp_ge (tgt := 60) hx hb dX5_freedom_32 (by decide) (fun c_32 => ?_) (fun c_32 => ?_)
        · refine lv_iconst (v := 0) hx hb dX5_freedom_60 (by decide) ?_
          exact join_61 0 (by simp only [mdFr0, if_pos c_32]) _ _ _ hw (lv_sub hl [1, 2, 3, 0] rfl)
        · refine lv_aload_n hx hb dX5_freedom_35 rfl (lv_at hl 1 rfl) ?_
          refine r_get (ci := 5) (v := .ref (a 10)) (C := RX5) (T := TX5) (N := 29) hx hb hts wiX5_freedom_m_freedom_X5 hown hK hw 0 rfl rfl 12 (by decide) wmX5_freedom_m_freedom_1 (fun _ h9 => h9) rfl dX5_freedom_36 ?_
          refine lv_iload_n hx hb dX5_freedom_39 rfl (lv_at hl 3 rfl) ?_
          refine r_iald (v := ((mdSolve m.2.1 m.2.2.2.1).2.1) k) hx hb hK hw 10 rfl k rfl (by omega) (by decide) rfl dX5_freedom_40 ?_
          refine lv_aload_n hx hb dX5_freedom_41 rfl (lv_at hl 1 rfl) ?_
          refine r_get (ci := 5) (v := .ref (a 10)) (C := RX5) (T := TX5) (N := 29) hx hb hts wiX5_freedom_m_freedom_X5 hown hK hw 0 rfl rfl 12 (by decide) wmX5_freedom_m_freedom_1 (fun _ h9 => h9) rfl dX5_freedom_42 ?_
          refine lv_bipush (v := 17) hx hb dX5_freedom_45 (by decide) ?_
          refine lv_iload_n hx hb dX5_freedom_47 rfl (lv_at hl 0 rfl) ?_
          refine lv_imul hx hb dX5_freedom_48 ?_
          refine r_top (y := nI (17 * (k / 17))) (pk_mul 17 (k / 17)) ?_
          refine lv_bipush (v := 16) hx hb dX5_freedom_49 (by decide) ?_
          refine lv_iadd hx hb dX5_freedom_51 ?_
          refine r_top (y := nI ((17 * (k / 17)) + 16)) (nI_add (17 * (k / 17)) 16) ?_
          refine r_iald (v := ((mdSolve m.2.1 m.2.2.2.1).2.1) ((17 * (k / 17)) + 16)) hx hb hK hw 10 rfl ((17 * (k / 17)) + 16) rfl (by omega) (by decide) rfl dX5_freedom_52 ?_
          refine lv_icmp_eq (tgt := 60) hx hb dX5_freedom_53 (by decide) (fun c_53 => ?_) (fun c_53 => ?_)
          · refine lv_iconst (v := 0) hx hb dX5_freedom_60 (by decide) ?_
            exact join_61 0 (by simp only [mdFr0, if_neg c_32, if_pos c_53]) _ _ _ hw (lv_sub hl [1, 2, 3, 0] rfl)
          · refine lv_iconst (v := 1) hx hb dX5_freedom_56 (by decide) ?_
            refine lv_goto (tgt := 61) hx hb dX5_freedom_57 (by decide) ?_
            exact join_61 1 (by simp only [mdFr0, if_neg c_32, if_neg c_53]) _ _ _ hw (lv_sub hl [1, 2, 3, 0] rfl)
  exact loop_13 ((34 - 0) + 1) 0 (Nat.lt_succ_self _) (by first | assumption | omega | rfl) _ _ _ hw (lv_sub hl [2, 1, 0] rfl)

theorem wiX5_tell_m_tell_X5 : ∀ w ∈ wsX50, w ∈ wsX5_tell := by decide +kernel
theorem wmX5_tell_m_tell_0 : Cond.fieldLink RX5 74 "PartSketchModel" "thrown" "I" ∈ wsX5_tell := by decide +kernel
theorem wmX5_tell_m_tell_1 : Cond.fieldLink RX5 16 "PartSketchModel" "kind" "[I" ∈ wsX5_tell := by decide +kernel
theorem wmX5_tell_m_tell_2 : Cond.fieldLink RX5 31 "PartSketchModel" "sizes" "[I" ∈ wsX5_tell := by decide +kernel
theorem wmX5_tell_m_tell_3 : Cond.fieldLink RX5 34 "PartSketchModel" "tells" "[Z" ∈ wsX5_tell := by decide +kernel
theorem wmX5_tell_m_tell_4 : Cond.fieldLink RX5 85 "PartSketchModel" "wishes" "I" ∈ wsX5_tell := by decide +kernel
set_option maxHeartbeats 4000000 in
set_option maxRecDepth 100000 in
/-- tell -/
theorem c_m_tell (l : Launch) (G : gT) (a : aMd) (m : tMd) (v : Int32) (w : Int32) (d : Int32) (hnw : m.2.1.2.2.2.1 ≤ 40) (sz : Nat) : MI l yX5_tell wsX5_tell ({ frames := 2, cells := 0, slots := 0, locals := 43 }) G [.ref (a 0), .int v, .int w, .int d] (wMd G a m) (wMd G a ((mdTell m v w d).2)) sz ((mdTell m v w d).1) 0 0 := by
  refine m_of (Qc := fun A9 => (va_Qi (fun (r9 : Int32) (_ : Unit) => r9 = ((mdTell m v w d).1)) (fun _ t9 => wPost G A9 (wMd G a ((mdTell m v w d).2)) t9) A9)) (cc := cX5_tell) (maxL := 6) (ret := (some .int)) (by decide) rfl (Nat.le_of_ble_eq_true rfl) ?_
  intro p9 e9 s9 m9 A9 be9 mt9 c9 H locs ls hx hb hr hts hown hlocks hin hml hK hA hw hl
  have hl : lv_has ls 6 [(0, .ref (a 0)), (1, .int v), (2, .int w), (3, .int d)] := hl
  refine lv_aload_n hx hb dX5_tell_0 rfl (lv_at hl 0 rfl) ?_
  refine lv_iconst (v := 0) hx hb dX5_tell_1 (by decide) ?_
  refine r_put (ci := 5) (v := .int 0) (ty := .int) (C := RX5) (T := TX5) (N := 29) hx hb hts wiX5_tell_m_tell_X5 tyX5 tyX5_ok nmX5 hown hK hw 0 rfl rfl 0 (by decide) wmX5_tell_m_tell_0 (fun _ h9 => h9) rfl (by decide +kernel) rfl rfl (Nat.le_of_ble_eq_true rfl) dX5_tell_2 (ws' := wMd G a (0, m.2.1, m.2.2.1, m.2.2.2.1, m.2.2.2.2.1, m.2.2.2.2.2.1, m.2.2.2.2.2.2)) rfl (fun H locs hw => ?_)
  refine lv_iload_n hx hb dX5_tell_5 rfl (lv_at hl 1 rfl) ?_
  refine lv_iconst (v := 0) hx hb dX5_tell_6 (by decide) ?_
  refine lv_iconst (v := 3) hx hb dX5_tell_7 (by decide) ?_
  have hwc : wW G A9 s9.heap (([] : va_W) ++ (([] : va_W) ++ (wMd G a (0, m.2.1, m.2.2.1, m.2.2.2.1, m.2.2.2.2.1, m.2.2.2.2.2.1, m.2.2.2.2.2.2)))) H locs := hw
  refine r_calli (res := (mdIn v 0 3)) (u := ([] : va_W)) (w := ([] : va_W)) (v := wMd G a (0, m.2.1, m.2.2.1, m.2.2.2.1, m.2.2.2.2.1, m.2.2.2.2.2.1, m.2.2.2.2.2.2)) (va_runS (As := [.int v, .int 0, .int 3]) (rest := []) ⟨hx, hb, hml, hown, hts⟩ (c_mdin l G v 0 3 H.size) (va_cwS 3 hts gX5_tell_X5_in rfl rfl rfl (by decide +kernel) ⟨Nat.le_of_ble_eq_true rfl, Nat.le_of_ble_eq_true rfl⟩) (r_preS hK hwc) rfl rfl hl.1 rfl (lv_room (Nat.le_of_ble_eq_true rfl)) dX5_tell_8 ⟨Nat.le_of_ble_eq_true rfl, Nat.le_of_ble_eq_true rfl⟩) hwc hA rfl rfl (fun H locs hw => ?_)
  have hw : wW G A9 s9.heap (wMd G a (0, m.2.1, m.2.2.1, m.2.2.2.1, m.2.2.2.2.1, m.2.2.2.2.2.1, m.2.2.2.2.2.2)) H locs := hw
  refine lv_if_eq (tgt := 21) hx hb dX5_tell_11 (by decide) (fun c_11 => ?_) (fun c_11 => ?_)
  · refine lv_aload_n hx hb dX5_tell_21 rfl (lv_at hl 0 rfl) ?_
    refine lv_iconst (v := 1) hx hb dX5_tell_22 (by decide) ?_
    have hwc : wW G A9 s9.heap (([] : va_W) ++ ((wMd G a (0, m.2.1, m.2.2.1, m.2.2.2.1, m.2.2.2.2.1, m.2.2.2.2.2.1, m.2.2.2.2.2.2)) ++ ([] : va_W))) H locs := hw
    refine r_calli (res := 0) (u := ([] : va_W)) (w := wMd G a (0, m.2.1, m.2.2.1, m.2.2.2.1, m.2.2.2.2.1, m.2.2.2.2.2.1, m.2.2.2.2.2.2)) (v := ([] : va_W)) (va_runV (As := [.int 1]) (rest := []) ⟨hx, hb, hml, hown, hts⟩ (c_refuses l G a (0, m.2.1, m.2.2.1, m.2.2.2.1, m.2.2.2.2.1, m.2.2.2.2.2.1, m.2.2.2.2.2.2) 1 H.size) (cwV 1 hts gX5_tell_X5_refuses rfl rfl rfl (by decide +kernel) ⟨Nat.le_of_ble_eq_true rfl, Nat.le_of_ble_eq_true rfl⟩) (r_preV (ci := 5) (q0 := 0) hK hwc rfl rfl rfl) rfl rfl hl.1 rfl (lv_room (Nat.le_of_ble_eq_true rfl)) dX5_tell_23 ⟨Nat.le_of_ble_eq_true rfl, Nat.le_of_ble_eq_true rfl⟩) hwc hA rfl rfl (fun H locs hw => ?_)
    have hw : wW G A9 s9.heap (wMd G a (1, m.2.1, m.2.2.1, m.2.2.2.1, m.2.2.2.2.1, m.2.2.2.2.2.1, m.2.2.2.2.2.2)) H locs := hw
    exact m_iret hx hb hr hlocks hK hw (Nat.le_of_ble_eq_true rfl) (Nat.le_of_ble_eq_true rfl) dX5_tell_26 (show (0 : Int32) = (mdTell m v w d).1 by first | rfl | (simp only [mdTell, if_pos c_11]; first | done | rfl)) (show wMd G a (1, m.2.1, m.2.2.1, m.2.2.2.1, m.2.2.2.2.1, m.2.2.2.2.2.1, m.2.2.2.2.2.2) = wMd G a ((mdTell m v w d).2) by first | rfl | (simp only [mdTell, if_pos c_11]; first | done | rfl))
  · have hv4 : iN v < 4 := mdIn_lt3 c_11
    refine lv_iload_n hx hb dX5_tell_14 rfl (lv_at hl 3 rfl) ?_
    have hwc : wW G A9 s9.heap (([] : va_W) ++ (([] : va_W) ++ (wMd G a (0, m.2.1, m.2.2.1, m.2.2.2.1, m.2.2.2.2.1, m.2.2.2.2.2.1, m.2.2.2.2.2.2)))) H locs := hw
    refine r_calli (res := (mdIn d (-100) 100)) (u := ([] : va_W)) (w := ([] : va_W)) (v := wMd G a (0, m.2.1, m.2.2.1, m.2.2.2.1, m.2.2.2.2.1, m.2.2.2.2.2.1, m.2.2.2.2.2.2)) (va_runS (As := [.int d]) (rest := []) ⟨hx, hb, hml, hown, hts⟩ (c_near l G d H.size) (va_cwS 1 hts gX5_tell_X5_isNear rfl rfl rfl (by decide +kernel) ⟨Nat.le_of_ble_eq_true rfl, Nat.le_of_ble_eq_true rfl⟩) (r_preS hK hwc) rfl rfl hl.1 rfl (lv_room (Nat.le_of_ble_eq_true rfl)) dX5_tell_15 ⟨Nat.le_of_ble_eq_true rfl, Nat.le_of_ble_eq_true rfl⟩) hwc hA rfl rfl (fun H locs hw => ?_)
    have hw : wW G A9 s9.heap (wMd G a (0, m.2.1, m.2.2.1, m.2.2.2.1, m.2.2.2.2.1, m.2.2.2.2.2.1, m.2.2.2.2.2.2)) H locs := hw
    refine lv_if_ne (tgt := 27) hx hb dX5_tell_18 (by decide) (fun c_18 => ?_) (fun c_18 => ?_)
    · refine lv_aload_n hx hb dX5_tell_27 rfl (lv_at hl 0 rfl) ?_
      refine lv_iload_n hx hb dX5_tell_28 rfl (lv_at hl 2 rfl) ?_
      have hwc : wW G A9 s9.heap (([] : va_W) ++ ((wMd G a (0, m.2.1, m.2.2.1, m.2.2.2.1, m.2.2.2.2.1, m.2.2.2.2.2.1, m.2.2.2.2.2.2)) ++ ([] : va_W))) H locs := hw
      refine r_calli (res := (mdIn w 0 (nI m.2.1.2.2.2.1 - 1))) (u := ([] : va_W)) (w := wMd G a (0, m.2.1, m.2.2.1, m.2.2.2.1, m.2.2.2.2.1, m.2.2.2.2.2.1, m.2.2.2.2.2.2)) (v := ([] : va_W)) (va_runV (As := [.int w]) (rest := []) ⟨hx, hb, hml, hown, hts⟩ (c_iswish l G a (0, m.2.1, m.2.2.1, m.2.2.2.1, m.2.2.2.2.1, m.2.2.2.2.2.1, m.2.2.2.2.2.2) w H.size) (cwV 1 hts gX5_tell_X5_isWish rfl rfl rfl (by decide +kernel) ⟨Nat.le_of_ble_eq_true rfl, Nat.le_of_ble_eq_true rfl⟩) (r_preV (ci := 5) (q0 := 0) hK hwc rfl rfl rfl) rfl rfl hl.1 rfl (lv_room (Nat.le_of_ble_eq_true rfl)) dX5_tell_29 ⟨Nat.le_of_ble_eq_true rfl, Nat.le_of_ble_eq_true rfl⟩) hwc hA rfl rfl (fun H locs hw => ?_)
      have hw : wW G A9 s9.heap (wMd G a (0, m.2.1, m.2.2.1, m.2.2.2.1, m.2.2.2.2.1, m.2.2.2.2.2.1, m.2.2.2.2.2.2)) H locs := hw
      refine lv_if_ne (tgt := 41) hx hb dX5_tell_32 (by decide) (fun c_32 => ?_) (fun c_32 => ?_)
      · have hwl : iN w < m.2.1.2.2.2.1 := mdIn_lt (Nat.le_trans hnw (by omega)) c_32
        refine lv_aload_n hx hb dX5_tell_41 rfl (lv_at hl 0 rfl) ?_
        refine r_get (ci := 5) (v := .ref (a 3)) (C := RX5) (T := TX5) (N := 29) hx hb hts wiX5_tell_m_tell_X5 hown hK hw 0 rfl rfl 5 (by decide) wmX5_tell_m_tell_1 (fun _ h9 => h9) rfl dX5_tell_42 ?_
        refine lv_iload_n hx hb dX5_tell_45 rfl (lv_at hl 2 rfl) ?_
        refine r_iald (v := nI (m.2.1.2.2.2.2.1 (iN w))) hx hb hK hw 3 rfl (iN w) (nI_iN w) (by omega) (by decide) rfl dX5_tell_46 ?_
        refine lv_iconst (v := 2) hx hb dX5_tell_47 (by decide) ?_
        refine lv_icmp_ne (tgt := 57) hx hb dX5_tell_48 (by decide) (fun c_48 => ?_) (fun c_48 => ?_)
        · refine lv_aload_n hx hb dX5_tell_57 rfl (lv_at hl 0 rfl) ?_
          refine r_get (ci := 5) (v := .ref (a 8)) (C := RX5) (T := TX5) (N := 29) hx hb hts wiX5_tell_m_tell_X5 hown hK hw 0 rfl rfl 10 (by decide) wmX5_tell_m_tell_2 (fun _ h9 => h9) rfl dX5_tell_58 ?_
          refine lv_bipush (v := 40) hx hb dX5_tell_61 (by decide) ?_
          refine lv_iload_n hx hb dX5_tell_63 rfl (lv_at hl 1 rfl) ?_
          refine lv_imul hx hb dX5_tell_64 ?_
          refine r_top (y := nI (40 * (iN v))) (nI_mulr 40 v) ?_
          refine lv_iload_n hx hb dX5_tell_65 rfl (lv_at hl 2 rfl) ?_
          refine lv_iadd hx hb dX5_tell_66 ?_
          refine r_top (y := nI ((40 * (iN v)) + (iN w))) (nI_addr (40 * (iN v)) w) ?_
          refine lv_iload_n hx hb dX5_tell_67 rfl (lv_at hl 3 rfl) ?_
          refine r_iast hx hb hK hw 8 rfl ((40 * (iN v)) + (iN w)) rfl (by omega) (by decide) dX5_tell_68 (ws' := wMd G a (0, m.2.1, ((upd m.2.2.1.1 ((40 * (iN v)) + (iN w)) d), m.2.2.1.2), m.2.2.2.1, m.2.2.2.2.1, m.2.2.2.2.2.1, m.2.2.2.2.2.2)) rfl (fun H locs hw => ?_)
          refine lv_aload_n hx hb dX5_tell_69 rfl (lv_at hl 0 rfl) ?_
          refine r_get (ci := 5) (v := .ref (a 9)) (C := RX5) (T := TX5) (N := 29) hx hb hts wiX5_tell_m_tell_X5 hown hK hw 0 rfl rfl 11 (by decide) wmX5_tell_m_tell_3 (fun _ h9 => h9) rfl dX5_tell_70 ?_
          refine lv_bipush (v := 40) hx hb dX5_tell_73 (by decide) ?_
          refine lv_iload_n hx hb dX5_tell_75 rfl (lv_at hl 1 rfl) ?_
          refine lv_imul hx hb dX5_tell_76 ?_
          refine r_top (y := nI (40 * (iN v))) (nI_mulr 40 v) ?_
          refine lv_iload_n hx hb dX5_tell_77 rfl (lv_at hl 2 rfl) ?_
          refine lv_iadd hx hb dX5_tell_78 ?_
          refine r_top (y := nI ((40 * (iN v)) + (iN w))) (nI_addr (40 * (iN v)) w) ?_
          refine lv_iconst (v := 1) hx hb dX5_tell_79 (by decide) ?_
          refine r_zast hx hb hK hw 9 rfl ((40 * (iN v)) + (iN w)) rfl (by omega) (by decide) (by rfl) dX5_tell_80 (ws' := wMd G a (0, m.2.1, ((upd m.2.2.1.1 ((40 * (iN v)) + (iN w)) d), (upd m.2.2.1.2 ((40 * (iN v)) + (iN w)) 1)), m.2.2.2.1, m.2.2.2.2.1, m.2.2.2.2.2.1, m.2.2.2.2.2.2)) rfl (fun H locs hw => ?_)
          refine lv_iconst (v := 0) hx hb dX5_tell_81 (by decide) ?_
          refine lv_istore (lv' := [(4, .int 0), (0, .ref (a 0)), (1, .int v), (2, .int w), (3, .int d)]) hx hb dX5_tell_82 hl (by decide) rfl (fun ls hl => ?_)
          refine lv_iconst (v := 0) hx hb dX5_tell_84 (by decide) ?_
          refine lv_istore (lv' := [(5, .int 0), (4, .int 0), (0, .ref (a 0)), (1, .int v), (2, .int w), (3, .int d)]) hx hb dX5_tell_85 hl (by decide) rfl (fun ls hl => ?_)
          have loop_87 : ∀ (nf : Nat) (k : Nat) (hnf : (m.2.1.2.2.2.1 - k) < nf) (hk : k ≤ m.2.1.2.2.2.1), ∀ (H : Heap) (locs : List Loc) (ls : Array Slot), wW G A9 s9.heap (wMd G a (0, m.2.1, ((upd m.2.2.1.1 ((40 * (iN v)) + (iN w)) d), (upd m.2.2.1.2 ((40 * (iN v)) + (iN w)) 1)), m.2.2.2.1, m.2.2.2.2.1, m.2.2.2.2.2.1, m.2.2.2.2.2.2)) H locs → lv_has ls 6 [(0, .ref (a 0)), (1, .int v), (2, .int w), (3, .int d), (4, .int (mdCntK (upd m.2.2.1.2 (40 * iN v + iN w) 1) (iN v) k)), (5, .int (nI k))] → W p9 l e9 ({ frames := 2, cells := 0, slots := 0, locals := 43 }) s9 m9 [.ref (a 0), .int v, .int w, .int d].toArray be9 mt9 c9 H locs 0 0 (MQ be9 (va_Qi (fun (r9 : Int32) (_ : Unit) => r9 = ((mdTell m v w d).1)) (fun _ t9 => wPost G A9 (wMd G a ((mdTell m v w d).2)) t9) A9) [.ref (a 0), .int v, .int w, .int d].toArray s9 0 0 A9) (F0 m9 87 ls []) := by
            intro nf
            induction nf with
            | zero => intro k hnf hk; exact absurd hnf (Nat.not_lt_zero _)
            | succ nf ih_87 =>
              intro k hnf hk H locs ls hw hl
              refine lv_iload hx hb dX5_tell_87 (lv_at hl 5 rfl) ?_
              refine lv_aload_n hx hb dX5_tell_89 rfl (lv_at hl 0 rfl) ?_
              refine r_get (ci := 5) (v := .int (nI m.2.1.2.2.2.1)) (C := RX5) (T := TX5) (N := 29) hx hb hts wiX5_tell_m_tell_X5 hown hK hw 0 rfl rfl 4 (by decide) wmX5_tell_m_tell_4 (fun _ h9 => h9) rfl dX5_tell_90 ?_
              refine lv_icmp_ge (tgt := 127) hx hb dX5_tell_93 (by decide) (fun c_93 => ?_) (fun c_93 => ?_)
              · have hx_93 : m.2.1.2.2.2.1 ≤ k := ct_ge (k := k) (n := m.2.1.2.2.2.1) (by omega) (by omega) c_93
                refine lv_iload hx hb dX5_tell_127 (lv_at hl 4 rfl) ?_
                exact m_iret hx hb hr hlocks hK hw (Nat.le_of_ble_eq_true rfl) (Nat.le_of_ble_eq_true rfl) dX5_tell_129 (show (mdCntK (upd m.2.2.1.2 (40 * iN v + iN w) 1) (iN v) k : Int32) = (mdTell m v w d).1 by rw [show k = m.2.1.2.2.2.1 by omega]; simp only [mdTell, if_neg c_11, if_neg c_18, if_neg c_32, if_neg c_48]) (show wMd G a (0, m.2.1, ((upd m.2.2.1.1 ((40 * (iN v)) + (iN w)) d), (upd m.2.2.1.2 ((40 * (iN v)) + (iN w)) 1)), m.2.2.2.1, m.2.2.2.2.1, m.2.2.2.2.2.1, m.2.2.2.2.2.2) = wMd G a ((mdTell m v w d).2) by simp only [mdTell, if_neg c_11, if_neg c_18, if_neg c_32, if_neg c_48]; rfl)
              · have hc_93 : k < m.2.1.2.2.2.1 := ct_nge (k := k) (n := m.2.1.2.2.2.1) (by omega) (by omega) c_93
                refine lv_iload hx hb dX5_tell_96 (lv_at hl 4 rfl) ?_
                have join_118 : ∀ (z : Int32) (hz : z = if (upd m.2.2.1.2 (40 * iN v + iN w) 1) (40 * iN v + k) = 0 then 0 else 1) (H : Heap) (locs : List Loc) (ls : Array Slot), wW G A9 s9.heap (wMd G a (0, m.2.1, ((upd m.2.2.1.1 ((40 * (iN v)) + (iN w)) d), (upd m.2.2.1.2 ((40 * (iN v)) + (iN w)) 1)), m.2.2.2.1, m.2.2.2.2.1, m.2.2.2.2.2.1, m.2.2.2.2.2.2)) H locs → lv_has ls 6 [(0, .ref (a 0)), (1, .int v), (2, .int w), (3, .int d), (4, .int (mdCntK (upd m.2.2.1.2 (40 * iN v + iN w) 1) (iN v) k)), (5, .int (nI k))] → W p9 l e9 ({ frames := 2, cells := 0, slots := 0, locals := 43 }) s9 m9 [.ref (a 0), .int v, .int w, .int d].toArray be9 mt9 c9 H locs 0 0 (MQ be9 (va_Qi (fun (r9 : Int32) (_ : Unit) => r9 = ((mdTell m v w d).1)) (fun _ t9 => wPost G A9 (wMd G a ((mdTell m v w d).2)) t9) A9) [.ref (a 0), .int v, .int w, .int d].toArray s9 0 0 A9) (F0 m9 118 ls [.int z, .int (mdCntK (upd m.2.2.1.2 (40 * iN v + iN w) 1) (iN v) k)]) := by
                  intro z hz H locs ls hw hl
                  refine lv_iadd hx hb dX5_tell_118 ?_
                  refine lv_istore (lv' := [(4, .int ((mdCntK (upd m.2.2.1.2 (40 * iN v + iN w) 1) (iN v) k) + z)), (0, .ref (a 0)), (1, .int v), (2, .int w), (3, .int d), (5, .int (nI k))]) hx hb dX5_tell_119 hl (by decide) rfl (fun ls hl => ?_)
                  refine lv_iinc (v := nI (k + 1)) (lv' := [(5, .int (nI (k + 1))), (4, .int ((mdCntK (upd m.2.2.1.2 (40 * iN v + iN w) 1) (iN v) k) + z)), (0, .ref (a 0)), (1, .int v), (2, .int w), (3, .int d)]) hx hb dX5_tell_121 hl (k := 5) rfl (nI_add k 1) (by decide) rfl (fun ls hl => ?_)
                  refine lv_goto (tgt := 87) hx hb dX5_tell_124 (by decide) ?_
                  exact ih_87 (k + 1) (by omega) (by first | assumption | omega | rfl) _ _ _ hw (lv_sub hl [2, 3, 4, 5, 1, 0] (show lv_pick [(5, .int (nI (k + 1))), (4, .int ((mdCntK (upd m.2.2.1.2 (40 * iN v + iN w) 1) (iN v) k) + z)), (0, .ref (a 0)), (1, .int v), (2, .int w), (3, .int d)] [2, 3, 4, 5, 1, 0] = [(0, .ref (a 0)), (1, .int v), (2, .int w), (3, .int d), (4, .int (mdCntK (upd m.2.2.1.2 (40 * iN v + iN w) 1) (iN v) (k + 1))), (5, .int (nI (k + 1)))] by rw [hz]; rfl))
                refine lv_aload_n hx hb dX5_tell_98 rfl (lv_at hl 0 rfl) ?_
                refine r_get (ci := 5) (v := .ref (a 9)) (C := RX5) (T := TX5) (N := 29) hx hb hts wiX5_tell_m_tell_X5 hown hK hw 0 rfl rfl 11 (by decide) wmX5_tell_m_tell_3 (fun _ h9 => h9) rfl dX5_tell_99 ?_
                refine lv_bipush (v := 40) hx hb dX5_tell_102 (by decide) ?_
                refine lv_iload_n hx hb dX5_tell_104 rfl (lv_at hl 1 rfl) ?_
                refine lv_imul hx hb dX5_tell_105 ?_
                refine r_top (y := nI (40 * (iN v))) (nI_mulr 40 v) ?_
                refine lv_iload hx hb dX5_tell_106 (lv_at hl 5 rfl) ?_
                refine lv_iadd hx hb dX5_tell_108 ?_
                refine r_top (y := nI ((40 * (iN v)) + k)) (nI_add (40 * (iN v)) k) ?_
                refine r_zald (v := (upd m.2.2.1.2 ((40 * (iN v)) + (iN w)) 1) ((40 * (iN v)) + k)) hx hb hK hw 9 rfl ((40 * (iN v)) + k) rfl (by omega) (by decide) rfl dX5_tell_109 ?_
                refine lv_if_eq (tgt := 117) hx hb dX5_tell_110 (by decide) (fun c_110 => ?_) (fun c_110 => ?_)
                · refine lv_iconst (v := 0) hx hb dX5_tell_117 (by decide) ?_
                  exact join_118 0 (by simp only [if_pos c_110]) _ _ _ hw (lv_sub hl [0, 1, 2, 3, 4, 5] rfl)
                · refine lv_iconst (v := 1) hx hb dX5_tell_113 (by decide) ?_
                  refine lv_goto (tgt := 118) hx hb dX5_tell_114 (by decide) ?_
                  exact join_118 1 (by simp only [if_neg c_110]) _ _ _ hw (lv_sub hl [0, 1, 2, 3, 4, 5] rfl)
          exact loop_87 ((m.2.1.2.2.2.1 - 0) + 1) 0 (Nat.lt_succ_self _) (by first | assumption | omega | rfl) _ _ _ hw (lv_sub hl [2, 3, 4, 5, 1, 0] rfl)
        · refine lv_aload_n hx hb dX5_tell_51 rfl (lv_at hl 0 rfl) ?_
          refine lv_iconst (v := 3) hx hb dX5_tell_52 (by decide) ?_
          have hwc : wW G A9 s9.heap (([] : va_W) ++ ((wMd G a (0, m.2.1, m.2.2.1, m.2.2.2.1, m.2.2.2.2.1, m.2.2.2.2.2.1, m.2.2.2.2.2.2)) ++ ([] : va_W))) H locs := hw
          refine r_calli (res := 0) (u := ([] : va_W)) (w := wMd G a (0, m.2.1, m.2.2.1, m.2.2.2.1, m.2.2.2.2.1, m.2.2.2.2.2.1, m.2.2.2.2.2.2)) (v := ([] : va_W)) (va_runV (As := [.int 3]) (rest := []) ⟨hx, hb, hml, hown, hts⟩ (c_refuses l G a (0, m.2.1, m.2.2.1, m.2.2.2.1, m.2.2.2.2.1, m.2.2.2.2.2.1, m.2.2.2.2.2.2) 3 H.size) (cwV 1 hts gX5_tell_X5_refuses rfl rfl rfl (by decide +kernel) ⟨Nat.le_of_ble_eq_true rfl, Nat.le_of_ble_eq_true rfl⟩) (r_preV (ci := 5) (q0 := 0) hK hwc rfl rfl rfl) rfl rfl hl.1 rfl (lv_room (Nat.le_of_ble_eq_true rfl)) dX5_tell_53 ⟨Nat.le_of_ble_eq_true rfl, Nat.le_of_ble_eq_true rfl⟩) hwc hA rfl rfl (fun H locs hw => ?_)
          have hw : wW G A9 s9.heap (wMd G a (3, m.2.1, m.2.2.1, m.2.2.2.1, m.2.2.2.2.1, m.2.2.2.2.2.1, m.2.2.2.2.2.2)) H locs := hw
          exact m_iret hx hb hr hlocks hK hw (Nat.le_of_ble_eq_true rfl) (Nat.le_of_ble_eq_true rfl) dX5_tell_56 (show (0 : Int32) = (mdTell m v w d).1 by first | rfl | (simp only [mdTell, if_neg c_11, if_neg c_18, if_neg c_32, if_pos c_48]; first | done | rfl)) (show wMd G a (3, m.2.1, m.2.2.1, m.2.2.2.1, m.2.2.2.2.1, m.2.2.2.2.2.1, m.2.2.2.2.2.2) = wMd G a ((mdTell m v w d).2) by first | rfl | (simp only [mdTell, if_neg c_11, if_neg c_18, if_neg c_32, if_pos c_48]; first | done | rfl))
      · refine lv_aload_n hx hb dX5_tell_35 rfl (lv_at hl 0 rfl) ?_
        refine lv_iconst (v := 2) hx hb dX5_tell_36 (by decide) ?_
        have hwc : wW G A9 s9.heap (([] : va_W) ++ ((wMd G a (0, m.2.1, m.2.2.1, m.2.2.2.1, m.2.2.2.2.1, m.2.2.2.2.2.1, m.2.2.2.2.2.2)) ++ ([] : va_W))) H locs := hw
        refine r_calli (res := 0) (u := ([] : va_W)) (w := wMd G a (0, m.2.1, m.2.2.1, m.2.2.2.1, m.2.2.2.2.1, m.2.2.2.2.2.1, m.2.2.2.2.2.2)) (v := ([] : va_W)) (va_runV (As := [.int 2]) (rest := []) ⟨hx, hb, hml, hown, hts⟩ (c_refuses l G a (0, m.2.1, m.2.2.1, m.2.2.2.1, m.2.2.2.2.1, m.2.2.2.2.2.1, m.2.2.2.2.2.2) 2 H.size) (cwV 1 hts gX5_tell_X5_refuses rfl rfl rfl (by decide +kernel) ⟨Nat.le_of_ble_eq_true rfl, Nat.le_of_ble_eq_true rfl⟩) (r_preV (ci := 5) (q0 := 0) hK hwc rfl rfl rfl) rfl rfl hl.1 rfl (lv_room (Nat.le_of_ble_eq_true rfl)) dX5_tell_37 ⟨Nat.le_of_ble_eq_true rfl, Nat.le_of_ble_eq_true rfl⟩) hwc hA rfl rfl (fun H locs hw => ?_)
        have hw : wW G A9 s9.heap (wMd G a (2, m.2.1, m.2.2.1, m.2.2.2.1, m.2.2.2.2.1, m.2.2.2.2.2.1, m.2.2.2.2.2.2)) H locs := hw
        exact m_iret hx hb hr hlocks hK hw (Nat.le_of_ble_eq_true rfl) (Nat.le_of_ble_eq_true rfl) dX5_tell_40 (show (0 : Int32) = (mdTell m v w d).1 by first | rfl | (simp only [mdTell, if_neg c_11, if_neg c_18, if_pos c_32]; first | done | rfl)) (show wMd G a (2, m.2.1, m.2.2.1, m.2.2.2.1, m.2.2.2.2.1, m.2.2.2.2.2.1, m.2.2.2.2.2.2) = wMd G a ((mdTell m v w d).2) by first | rfl | (simp only [mdTell, if_neg c_11, if_neg c_18, if_pos c_32]; first | done | rfl))
    · refine lv_aload_n hx hb dX5_tell_21 rfl (lv_at hl 0 rfl) ?_
      refine lv_iconst (v := 1) hx hb dX5_tell_22 (by decide) ?_
      have hwc : wW G A9 s9.heap (([] : va_W) ++ ((wMd G a (0, m.2.1, m.2.2.1, m.2.2.2.1, m.2.2.2.2.1, m.2.2.2.2.2.1, m.2.2.2.2.2.2)) ++ ([] : va_W))) H locs := hw
      refine r_calli (res := 0) (u := ([] : va_W)) (w := wMd G a (0, m.2.1, m.2.2.1, m.2.2.2.1, m.2.2.2.2.1, m.2.2.2.2.2.1, m.2.2.2.2.2.2)) (v := ([] : va_W)) (va_runV (As := [.int 1]) (rest := []) ⟨hx, hb, hml, hown, hts⟩ (c_refuses l G a (0, m.2.1, m.2.2.1, m.2.2.2.1, m.2.2.2.2.1, m.2.2.2.2.2.1, m.2.2.2.2.2.2) 1 H.size) (cwV 1 hts gX5_tell_X5_refuses rfl rfl rfl (by decide +kernel) ⟨Nat.le_of_ble_eq_true rfl, Nat.le_of_ble_eq_true rfl⟩) (r_preV (ci := 5) (q0 := 0) hK hwc rfl rfl rfl) rfl rfl hl.1 rfl (lv_room (Nat.le_of_ble_eq_true rfl)) dX5_tell_23 ⟨Nat.le_of_ble_eq_true rfl, Nat.le_of_ble_eq_true rfl⟩) hwc hA rfl rfl (fun H locs hw => ?_)
      have hw : wW G A9 s9.heap (wMd G a (1, m.2.1, m.2.2.1, m.2.2.2.1, m.2.2.2.2.1, m.2.2.2.2.2.1, m.2.2.2.2.2.2)) H locs := hw
      exact m_iret hx hb hr hlocks hK hw (Nat.le_of_ble_eq_true rfl) (Nat.le_of_ble_eq_true rfl) dX5_tell_26 (show (0 : Int32) = (mdTell m v w d).1 by first | rfl | (simp only [mdTell, if_neg c_11, if_pos c_18]; first | done | rfl)) (show wMd G a (1, m.2.1, m.2.2.1, m.2.2.2.1, m.2.2.2.2.1, m.2.2.2.2.2.1, m.2.2.2.2.2.2) = wMd G a ((mdTell m v w d).2) by first | rfl | (simp only [mdTell, if_neg c_11, if_pos c_18]; first | done | rfl))

theorem wiX5_choose_m_choose_X5 : ∀ w ∈ wsX50, w ∈ wsX5_choose := by decide +kernel
theorem wmX5_choose_m_choose_0 : Cond.fieldLink RX5 74 "PartSketchModel" "thrown" "I" ∈ wsX5_choose := by decide +kernel
theorem wmX5_choose_m_choose_1 : Cond.fieldLink RX5 85 "PartSketchModel" "wishes" "I" ∈ wsX5_choose := by decide +kernel
theorem wmX5_choose_m_choose_2 : Cond.fieldLink RX5 34 "PartSketchModel" "tells" "[Z" ∈ wsX5_choose := by decide +kernel
theorem wmX5_choose_m_choose_3 : Cond.fieldLink RX5 25 "PartSketchModel" "size" "[I" ∈ wsX5_choose := by decide +kernel
theorem wmX5_choose_m_choose_4 : Cond.fieldLink RX5 31 "PartSketchModel" "sizes" "[I" ∈ wsX5_choose := by decide +kernel
set_option maxHeartbeats 4000000 in
set_option maxRecDepth 100000 in
/-- choose -/
theorem c_m_choose (l : Launch) (G : gT) (a : aMd) (m : tMd) (v : Int32) (hnw : m.2.1.2.2.2.1 ≤ 40) (sz : Nat) : MI l yX5_choose wsX5_choose ({ frames := 1, cells := 0, slots := 0, locals := 22 }) G [.ref (a 0), .int v] (wMd G a m) (wMd G a ((mdChoose m v).2)) sz ((mdChoose m v).1) 0 0 := by
  refine m_of (Qc := fun A9 => (va_Qi (fun (r9 : Int32) (_ : Unit) => r9 = ((mdChoose m v).1)) (fun _ t9 => wPost G A9 (wMd G a ((mdChoose m v).2)) t9) A9)) (cc := cX5_choose) (maxL := 5) (ret := (some .int)) (by decide) rfl (Nat.le_of_ble_eq_true rfl) ?_
  intro p9 e9 s9 m9 A9 be9 mt9 c9 H locs ls hx hb hr hts hown hlocks hin hml hK hA hw hl
  have hl : lv_has ls 5 [(0, .ref (a 0)), (1, .int v)] := hl
  refine lv_aload_n hx hb dX5_choose_0 rfl (lv_at hl 0 rfl) ?_
  refine lv_iconst (v := 0) hx hb dX5_choose_1 (by decide) ?_
  refine r_put (ci := 5) (v := .int 0) (ty := .int) (C := RX5) (T := TX5) (N := 29) hx hb hts wiX5_choose_m_choose_X5 tyX5 tyX5_ok nmX5 hown hK hw 0 rfl rfl 0 (by decide) wmX5_choose_m_choose_0 (fun _ h9 => h9) rfl (by decide +kernel) rfl rfl (Nat.le_of_ble_eq_true rfl) dX5_choose_2 (ws' := wMd G a (0, m.2.1, m.2.2.1, m.2.2.2.1, m.2.2.2.2.1, m.2.2.2.2.2.1, m.2.2.2.2.2.2)) rfl (fun H locs hw => ?_)
  refine lv_iload_n hx hb dX5_choose_5 rfl (lv_at hl 1 rfl) ?_
  refine lv_iconst (v := 0) hx hb dX5_choose_6 (by decide) ?_
  refine lv_iconst (v := 3) hx hb dX5_choose_7 (by decide) ?_
  have hwc : wW G A9 s9.heap (([] : va_W) ++ (([] : va_W) ++ (wMd G a (0, m.2.1, m.2.2.1, m.2.2.2.1, m.2.2.2.2.1, m.2.2.2.2.2.1, m.2.2.2.2.2.2)))) H locs := hw
  refine r_calli (res := (mdIn v 0 3)) (u := ([] : va_W)) (w := ([] : va_W)) (v := wMd G a (0, m.2.1, m.2.2.1, m.2.2.2.1, m.2.2.2.2.1, m.2.2.2.2.2.1, m.2.2.2.2.2.2)) (va_runS (As := [.int v, .int 0, .int 3]) (rest := []) ⟨hx, hb, hml, hown, hts⟩ (c_mdin l G v 0 3 H.size) (va_cwS 3 hts gX5_choose_X5_in rfl rfl rfl (by decide +kernel) ⟨Nat.le_of_ble_eq_true rfl, Nat.le_of_ble_eq_true rfl⟩) (r_preS hK hwc) rfl rfl hl.1 rfl (lv_room (Nat.le_of_ble_eq_true rfl)) dX5_choose_8 ⟨Nat.le_of_ble_eq_true rfl, Nat.le_of_ble_eq_true rfl⟩) hwc hA rfl rfl (fun H locs hw => ?_)
  have hw : wW G A9 s9.heap (wMd G a (0, m.2.1, m.2.2.1, m.2.2.2.1, m.2.2.2.2.1, m.2.2.2.2.2.1, m.2.2.2.2.2.2)) H locs := hw
  refine lv_if_ne (tgt := 20) hx hb dX5_choose_11 (by decide) (fun c_11 => ?_) (fun c_11 => ?_)
  · have hv4 : iN v < 4 := mdIn_lt3 c_11
    refine lv_iconst (v := 0) hx hb dX5_choose_20 (by decide) ?_
    refine lv_istore_n (lv' := [(2, .int 0), (0, .ref (a 0)), (1, .int v)]) hx hb dX5_choose_21 rfl hl (by decide) rfl (fun ls hl => ?_)
    refine lv_iconst (v := 0) hx hb dX5_choose_22 (by decide) ?_
    refine lv_istore_n (lv' := [(3, .int 0), (2, .int 0), (0, .ref (a 0)), (1, .int v)]) hx hb dX5_choose_23 rfl hl (by decide) rfl (fun ls hl => ?_)
    have loop_24 : ∀ (nf : Nat) (k : Nat) (hnf : (m.2.1.2.2.2.1 - k) < nf) (hk : k ≤ m.2.1.2.2.2.1), ∀ (H : Heap) (locs : List Loc) (ls : Array Slot), wW G A9 s9.heap (wMd G a (0, (m.2.1.1, m.2.1.2.1, m.2.1.2.2.1, m.2.1.2.2.2.1, m.2.1.2.2.2.2.1, m.2.1.2.2.2.2.2.1, m.2.1.2.2.2.2.2.2.1, (mdTkK m.2.2.1 m.2.1.2.2.2.2.2.2.2 (iN v) k).2), m.2.2.1, m.2.2.2.1, m.2.2.2.2.1, m.2.2.2.2.2.1, m.2.2.2.2.2.2)) H locs → lv_has ls 5 [(0, .ref (a 0)), (1, .int v), (2, .int ((mdTkK m.2.2.1 m.2.1.2.2.2.2.2.2.2 (iN v) k).1)), (3, .int (nI k))] → W p9 l e9 ({ frames := 1, cells := 0, slots := 0, locals := 22 }) s9 m9 [.ref (a 0), .int v].toArray be9 mt9 c9 H locs 0 0 (MQ be9 (va_Qi (fun (r9 : Int32) (_ : Unit) => r9 = ((mdChoose m v).1)) (fun _ t9 => wPost G A9 (wMd G a ((mdChoose m v).2)) t9) A9) [.ref (a 0), .int v].toArray s9 0 0 A9) (F0 m9 24 ls []) := by
      intro nf
      induction nf with
      | zero => intro k hnf hk; exact absurd hnf (Nat.not_lt_zero _)
      | succ nf ih_24 =>
        intro k hnf hk H locs ls hw hl
        refine lv_iload_n hx hb dX5_choose_24 rfl (lv_at hl 3 rfl) ?_
        refine lv_aload_n hx hb dX5_choose_25 rfl (lv_at hl 0 rfl) ?_
        refine r_get (ci := 5) (v := .int (nI m.2.1.2.2.2.1)) (C := RX5) (T := TX5) (N := 29) hx hb hts wiX5_choose_m_choose_X5 hown hK hw 0 rfl rfl 4 (by decide) wmX5_choose_m_choose_1 (fun _ h9 => h9) rfl dX5_choose_26 ?_
        refine lv_icmp_ge (tgt := 115) hx hb dX5_choose_29 (by decide) (fun c_29 => ?_) (fun c_29 => ?_)
        · have hx_29 : m.2.1.2.2.2.1 ≤ k := ct_ge (k := k) (n := m.2.1.2.2.2.1) (by omega) (by omega) c_29
          refine lv_iload_n hx hb dX5_choose_115 rfl (lv_at hl 2 rfl) ?_
          exact m_iret hx hb hr hlocks hK hw (Nat.le_of_ble_eq_true rfl) (Nat.le_of_ble_eq_true rfl) dX5_choose_116 (show ((mdTkK m.2.2.1 m.2.1.2.2.2.2.2.2.2 (iN v) k).1 : Int32) = (mdChoose m v).1 by rw [show k = m.2.1.2.2.2.1 by omega]; simp only [mdChoose, if_neg c_11]) (show wMd G a (0, (m.2.1.1, m.2.1.2.1, m.2.1.2.2.1, m.2.1.2.2.2.1, m.2.1.2.2.2.2.1, m.2.1.2.2.2.2.2.1, m.2.1.2.2.2.2.2.2.1, (mdTkK m.2.2.1 m.2.1.2.2.2.2.2.2.2 (iN v) k).2), m.2.2.1, m.2.2.2.1, m.2.2.2.2.1, m.2.2.2.2.2.1, m.2.2.2.2.2.2) = wMd G a ((mdChoose m v).2) by rw [show k = m.2.1.2.2.2.1 by omega]; simp only [mdChoose, if_neg c_11])
        · have hc_29 : k < m.2.1.2.2.2.1 := ct_nge (k := k) (n := m.2.1.2.2.2.1) (by omega) (by omega) c_29
          refine lv_aload_n hx hb dX5_choose_32 rfl (lv_at hl 0 rfl) ?_
          refine r_get (ci := 5) (v := .ref (a 9)) (C := RX5) (T := TX5) (N := 29) hx hb hts wiX5_choose_m_choose_X5 hown hK hw 0 rfl rfl 11 (by decide) wmX5_choose_m_choose_2 (fun _ h9 => h9) rfl dX5_choose_33 ?_
          refine lv_bipush (v := 40) hx hb dX5_choose_36 (by decide) ?_
          refine lv_iload_n hx hb dX5_choose_38 rfl (lv_at hl 1 rfl) ?_
          refine lv_imul hx hb dX5_choose_39 ?_
          refine r_top (y := nI (40 * (iN v))) (nI_mulr 40 v) ?_
          refine lv_iload_n hx hb dX5_choose_40 rfl (lv_at hl 3 rfl) ?_
          refine lv_iadd hx hb dX5_choose_41 ?_
          refine r_top (y := nI ((40 * (iN v)) + k)) (nI_add (40 * (iN v)) k) ?_
          refine r_zald (v := m.2.2.1.2 ((40 * (iN v)) + k)) hx hb hK hw 9 rfl ((40 * (iN v)) + k) rfl (by omega) (by decide) rfl dX5_choose_42 ?_
          refine lv_istore (lv' := [(4, .int (m.2.2.1.2 ((40 * (iN v)) + k))), (0, .ref (a 0)), (1, .int v), (2, .int ((mdTkK m.2.2.1 m.2.1.2.2.2.2.2.2.2 (iN v) k).1)), (3, .int (nI k))]) hx hb dX5_choose_43 hl (by decide) rfl (fun ls hl => ?_)
          have join_76 : ∀ (z : Int32) (hz : z = if m.2.2.1.2 (40 * iN v + k) = 0 then 0 else if (mdTkK m.2.2.1 m.2.1.2.2.2.2.2.2.2 (iN v) k).2 k = m.2.2.1.1 (40 * iN v + k) then 0 else 1) (H : Heap) (locs : List Loc) (ls : Array Slot), wW G A9 s9.heap (wMd G a (0, (m.2.1.1, m.2.1.2.1, m.2.1.2.2.1, m.2.1.2.2.2.1, m.2.1.2.2.2.2.1, m.2.1.2.2.2.2.2.1, m.2.1.2.2.2.2.2.2.1, (mdTkK m.2.2.1 m.2.1.2.2.2.2.2.2.2 (iN v) k).2), m.2.2.1, m.2.2.2.1, m.2.2.2.2.1, m.2.2.2.2.2.1, m.2.2.2.2.2.2)) H locs → lv_has ls 5 [(0, .ref (a 0)), (1, .int v), (2, .int ((mdTkK m.2.2.1 m.2.1.2.2.2.2.2.2.2 (iN v) k).1)), (3, .int (nI k)), (4, .int (m.2.2.1.2 ((40 * (iN v)) + k)))] → W p9 l e9 ({ frames := 1, cells := 0, slots := 0, locals := 22 }) s9 m9 [.ref (a 0), .int v].toArray be9 mt9 c9 H locs 0 0 (MQ be9 (va_Qi (fun (r9 : Int32) (_ : Unit) => r9 = ((mdChoose m v).1)) (fun _ t9 => wPost G A9 (wMd G a ((mdChoose m v).2)) t9) A9) [.ref (a 0), .int v].toArray s9 0 0 A9) (F0 m9 76 ls [.int z, .int ((mdTkK m.2.2.1 m.2.1.2.2.2.2.2.2.2 (iN v) k).1)]) := by
            intro z hz H locs ls hw hl
            refine lv_iadd hx hb dX5_choose_76 ?_
            refine lv_istore_n (lv' := [(2, .int (((mdTkK m.2.2.1 m.2.1.2.2.2.2.2.2.2 (iN v) k).1) + z)), (0, .ref (a 0)), (1, .int v), (3, .int (nI k)), (4, .int (m.2.2.1.2 ((40 * (iN v)) + k)))]) hx hb dX5_choose_77 rfl hl (by decide) rfl (fun ls hl => ?_)
            have join_108 : ∀ (z2 : Int32) (hz2 : z2 = if m.2.2.1.2 (40 * iN v + k) = 0 then (mdTkK m.2.2.1 m.2.1.2.2.2.2.2.2.2 (iN v) k).2 k else m.2.2.1.1 (40 * iN v + k)) (H : Heap) (locs : List Loc) (ls : Array Slot), wW G A9 s9.heap (wMd G a (0, (m.2.1.1, m.2.1.2.1, m.2.1.2.2.1, m.2.1.2.2.2.1, m.2.1.2.2.2.2.1, m.2.1.2.2.2.2.2.1, m.2.1.2.2.2.2.2.2.1, (mdTkK m.2.2.1 m.2.1.2.2.2.2.2.2.2 (iN v) k).2), m.2.2.1, m.2.2.2.1, m.2.2.2.2.1, m.2.2.2.2.2.1, m.2.2.2.2.2.2)) H locs → lv_has ls 5 [(0, .ref (a 0)), (1, .int v), (2, .int (((mdTkK m.2.2.1 m.2.1.2.2.2.2.2.2.2 (iN v) k).1) + z)), (3, .int (nI k)), (4, .int (m.2.2.1.2 ((40 * (iN v)) + k)))] → W p9 l e9 ({ frames := 1, cells := 0, slots := 0, locals := 22 }) s9 m9 [.ref (a 0), .int v].toArray be9 mt9 c9 H locs 0 0 (MQ be9 (va_Qi (fun (r9 : Int32) (_ : Unit) => r9 = ((mdChoose m v).1)) (fun _ t9 => wPost G A9 (wMd G a ((mdChoose m v).2)) t9) A9) [.ref (a 0), .int v].toArray s9 0 0 A9) (F0 m9 108 ls [.int z2, .int (nI k), .ref (a 6)]) := by
              intro z2 hz2 H locs ls hw hl
              refine r_iast hx hb hK hw 6 rfl k rfl (by omega) (by decide) dX5_choose_108 (ws' := wMd G a (0, (m.2.1.1, m.2.1.2.1, m.2.1.2.2.1, m.2.1.2.2.2.1, m.2.1.2.2.2.2.1, m.2.1.2.2.2.2.2.1, m.2.1.2.2.2.2.2.2.1, (upd ((mdTkK m.2.2.1 m.2.1.2.2.2.2.2.2.2 (iN v) k).2) k z2)), m.2.2.1, m.2.2.2.1, m.2.2.2.2.1, m.2.2.2.2.2.1, m.2.2.2.2.2.2)) rfl (fun H locs hw => ?_)
              refine lv_iinc (v := nI (k + 1)) (lv' := [(3, .int (nI (k + 1))), (0, .ref (a 0)), (1, .int v), (2, .int (((mdTkK m.2.2.1 m.2.1.2.2.2.2.2.2.2 (iN v) k).1) + z)), (4, .int (m.2.2.1.2 ((40 * (iN v)) + k)))]) hx hb dX5_choose_109 hl (k := 3) rfl (nI_add k 1) (by decide) rfl (fun ls hl => ?_)
              refine lv_goto (tgt := 24) hx hb dX5_choose_112 (by decide) ?_
              exact ih_24 (k + 1) (by omega) (by first | assumption | omega | rfl) _ _ _ (wW.eq (show wMd G a (0, (m.2.1.1, m.2.1.2.1, m.2.1.2.2.1, m.2.1.2.2.2.1, m.2.1.2.2.2.2.1, m.2.1.2.2.2.2.2.1, m.2.1.2.2.2.2.2.2.1, (upd ((mdTkK m.2.2.1 m.2.1.2.2.2.2.2.2.2 (iN v) k).2) k z2)), m.2.2.1, m.2.2.2.1, m.2.2.2.2.1, m.2.2.2.2.2.1, m.2.2.2.2.2.2) = wMd G a (0, (m.2.1.1, m.2.1.2.1, m.2.1.2.2.1, m.2.1.2.2.2.1, m.2.1.2.2.2.2.1, m.2.1.2.2.2.2.2.1, m.2.1.2.2.2.2.2.2.1, (mdTkK m.2.2.1 m.2.1.2.2.2.2.2.2.2 (iN v) (k + 1)).2), m.2.2.1, m.2.2.2.1, m.2.2.2.2.1, m.2.2.2.2.2.1, m.2.2.2.2.2.2) from (by rw [hz2]; rfl)) hw) (lv_sub hl [1, 2, 3, 0] (show lv_pick [(3, .int (nI (k + 1))), (0, .ref (a 0)), (1, .int v), (2, .int (((mdTkK m.2.2.1 m.2.1.2.2.2.2.2.2.2 (iN v) k).1) + z)), (4, .int (m.2.2.1.2 ((40 * (iN v)) + k)))] [1, 2, 3, 0] = [(0, .ref (a 0)), (1, .int v), (2, .int ((mdTkK m.2.2.1 m.2.1.2.2.2.2.2.2.2 (iN v) (k + 1)).1)), (3, .int (nI (k + 1)))] by rw [hz]; rfl))
            refine lv_aload_n hx hb dX5_choose_78 rfl (lv_at hl 1 rfl) ?_
            refine r_get (ci := 5) (v := .ref (a 6)) (C := RX5) (T := TX5) (N := 29) hx hb hts wiX5_choose_m_choose_X5 hown hK hw 0 rfl rfl 8 (by decide) wmX5_choose_m_choose_3 (fun _ h9 => h9) rfl dX5_choose_79 ?_
            refine lv_iload_n hx hb dX5_choose_82 rfl (lv_at hl 3 rfl) ?_
            refine lv_iload hx hb dX5_choose_83 (lv_at hl 4 rfl) ?_
            refine lv_if_eq (tgt := 102) hx hb dX5_choose_85 (by decide) (fun c_85 => ?_) (fun c_85 => ?_)
            · refine lv_aload_n hx hb dX5_choose_102 rfl (lv_at hl 1 rfl) ?_
              refine r_get (ci := 5) (v := .ref (a 6)) (C := RX5) (T := TX5) (N := 29) hx hb hts wiX5_choose_m_choose_X5 hown hK hw 0 rfl rfl 8 (by decide) wmX5_choose_m_choose_3 (fun _ h9 => h9) rfl dX5_choose_103 ?_
              refine lv_iload_n hx hb dX5_choose_106 rfl (lv_at hl 3 rfl) ?_
              refine r_iald (v := ((mdTkK m.2.2.1 m.2.1.2.2.2.2.2.2.2 (iN v) k).2) k) hx hb hK hw 6 rfl k rfl (by omega) (by decide) rfl dX5_choose_107 ?_
              exact join_108 (((mdTkK m.2.2.1 m.2.1.2.2.2.2.2.2.2 (iN v) k).2) k) (by simp only [if_pos c_85]) _ _ _ hw (lv_sub hl [1, 2, 0, 3, 4] rfl)
            · refine lv_aload_n hx hb dX5_choose_88 rfl (lv_at hl 1 rfl) ?_
              refine r_get (ci := 5) (v := .ref (a 8)) (C := RX5) (T := TX5) (N := 29) hx hb hts wiX5_choose_m_choose_X5 hown hK hw 0 rfl rfl 10 (by decide) wmX5_choose_m_choose_4 (fun _ h9 => h9) rfl dX5_choose_89 ?_
              refine lv_bipush (v := 40) hx hb dX5_choose_92 (by decide) ?_
              refine lv_iload_n hx hb dX5_choose_94 rfl (lv_at hl 2 rfl) ?_
              refine lv_imul hx hb dX5_choose_95 ?_
              refine r_top (y := nI (40 * (iN v))) (nI_mulr 40 v) ?_
              refine lv_iload_n hx hb dX5_choose_96 rfl (lv_at hl 3 rfl) ?_
              refine lv_iadd hx hb dX5_choose_97 ?_
              refine r_top (y := nI ((40 * (iN v)) + k)) (nI_add (40 * (iN v)) k) ?_
              refine r_iald (v := m.2.2.1.1 ((40 * (iN v)) + k)) hx hb hK hw 8 rfl ((40 * (iN v)) + k) rfl (by omega) (by decide) rfl dX5_choose_98 ?_
              refine lv_goto (tgt := 108) hx hb dX5_choose_99 (by decide) ?_
              exact join_108 (m.2.2.1.1 ((40 * (iN v)) + k)) (by simp only [if_neg c_85]) _ _ _ hw (lv_sub hl [1, 2, 0, 3, 4] rfl)
          refine lv_iload_n hx hb dX5_choose_45 rfl (lv_at hl 3 rfl) ?_
          refine lv_iload hx hb dX5_choose_46 (lv_at hl 0 rfl) ?_
          refine lv_if_eq (tgt := 75) hx hb dX5_choose_48 (by decide) (fun c_48 => ?_) (fun c_48 => ?_)
          · refine lv_iconst (v := 0) hx hb dX5_choose_75 (by decide) ?_
            exact join_76 0 (by simp only [if_pos c_48]) _ _ _ hw (lv_sub hl [1, 2, 3, 4, 0] rfl)
          · refine lv_aload_n hx hb dX5_choose_51 rfl (lv_at hl 1 rfl) ?_
            refine r_get (ci := 5) (v := .ref (a 6)) (C := RX5) (T := TX5) (N := 29) hx hb hts wiX5_choose_m_choose_X5 hown hK hw 0 rfl rfl 8 (by decide) wmX5_choose_m_choose_3 (fun _ h9 => h9) rfl dX5_choose_52 ?_
            refine lv_iload_n hx hb dX5_choose_55 rfl (lv_at hl 4 rfl) ?_
            refine r_iald (v := ((mdTkK m.2.2.1 m.2.1.2.2.2.2.2.2.2 (iN v) k).2) k) hx hb hK hw 6 rfl k rfl (by omega) (by decide) rfl dX5_choose_56 ?_
            refine lv_aload_n hx hb dX5_choose_57 rfl (lv_at hl 1 rfl) ?_
            refine r_get (ci := 5) (v := .ref (a 8)) (C := RX5) (T := TX5) (N := 29) hx hb hts wiX5_choose_m_choose_X5 hown hK hw 0 rfl rfl 10 (by decide) wmX5_choose_m_choose_4 (fun _ h9 => h9) rfl dX5_choose_58 ?_
            refine lv_bipush (v := 40) hx hb dX5_choose_61 (by decide) ?_
            refine lv_iload_n hx hb dX5_choose_63 rfl (lv_at hl 2 rfl) ?_
            refine lv_imul hx hb dX5_choose_64 ?_
            refine r_top (y := nI (40 * (iN v))) (nI_mulr 40 v) ?_
            refine lv_iload_n hx hb dX5_choose_65 rfl (lv_at hl 4 rfl) ?_
            refine lv_iadd hx hb dX5_choose_66 ?_
            refine r_top (y := nI ((40 * (iN v)) + k)) (nI_add (40 * (iN v)) k) ?_
            refine r_iald (v := m.2.2.1.1 ((40 * (iN v)) + k)) hx hb hK hw 8 rfl ((40 * (iN v)) + k) rfl (by omega) (by decide) rfl dX5_choose_67 ?_
            refine lv_icmp_eq (tgt := 75) hx hb dX5_choose_68 (by decide) (fun c_68 => ?_) (fun c_68 => ?_)
            · refine lv_iconst (v := 0) hx hb dX5_choose_75 (by decide) ?_
              exact join_76 0 (by simp only [if_neg c_48, if_pos c_68]) _ _ _ hw (lv_sub hl [1, 2, 3, 4, 0] rfl)
            · refine lv_iconst (v := 1) hx hb dX5_choose_71 (by decide) ?_
              refine lv_goto (tgt := 76) hx hb dX5_choose_72 (by decide) ?_
              exact join_76 1 (by simp only [if_neg c_48, if_neg c_68]) _ _ _ hw (lv_sub hl [1, 2, 3, 4, 0] rfl)
    exact loop_24 ((m.2.1.2.2.2.1 - 0) + 1) 0 (Nat.lt_succ_self _) (by first | assumption | omega | rfl) _ _ _ (wW.eq (show wMd G a (0, m.2.1, m.2.2.1, m.2.2.2.1, m.2.2.2.2.1, m.2.2.2.2.2.1, m.2.2.2.2.2.2) = wMd G a (0, (m.2.1.1, m.2.1.2.1, m.2.1.2.2.1, m.2.1.2.2.2.1, m.2.1.2.2.2.2.1, m.2.1.2.2.2.2.2.1, m.2.1.2.2.2.2.2.2.1, (mdTkK m.2.2.1 m.2.1.2.2.2.2.2.2.2 (iN v) 0).2), m.2.2.1, m.2.2.2.1, m.2.2.2.2.1, m.2.2.2.2.2.1, m.2.2.2.2.2.2) from rfl) hw) (lv_sub hl [2, 3, 1, 0] rfl)
  · refine lv_aload_n hx hb dX5_choose_14 rfl (lv_at hl 0 rfl) ?_
    refine lv_iconst (v := 1) hx hb dX5_choose_15 (by decide) ?_
    have hwc : wW G A9 s9.heap (([] : va_W) ++ ((wMd G a (0, m.2.1, m.2.2.1, m.2.2.2.1, m.2.2.2.2.1, m.2.2.2.2.2.1, m.2.2.2.2.2.2)) ++ ([] : va_W))) H locs := hw
    refine r_calli (res := 0) (u := ([] : va_W)) (w := wMd G a (0, m.2.1, m.2.2.1, m.2.2.2.1, m.2.2.2.2.1, m.2.2.2.2.2.1, m.2.2.2.2.2.2)) (v := ([] : va_W)) (va_runV (As := [.int 1]) (rest := []) ⟨hx, hb, hml, hown, hts⟩ (c_refuses l G a (0, m.2.1, m.2.2.1, m.2.2.2.1, m.2.2.2.2.1, m.2.2.2.2.2.1, m.2.2.2.2.2.2) 1 H.size) (cwV 1 hts gX5_choose_X5_refuses rfl rfl rfl (by decide +kernel) ⟨Nat.le_of_ble_eq_true rfl, Nat.le_of_ble_eq_true rfl⟩) (r_preV (ci := 5) (q0 := 0) hK hwc rfl rfl rfl) rfl rfl hl.1 rfl (lv_room (Nat.le_of_ble_eq_true rfl)) dX5_choose_16 ⟨Nat.le_of_ble_eq_true rfl, Nat.le_of_ble_eq_true rfl⟩) hwc hA rfl rfl (fun H locs hw => ?_)
    have hw : wW G A9 s9.heap (wMd G a (1, m.2.1, m.2.2.1, m.2.2.2.1, m.2.2.2.2.1, m.2.2.2.2.2.1, m.2.2.2.2.2.2)) H locs := hw
    exact m_iret hx hb hr hlocks hK hw (Nat.le_of_ble_eq_true rfl) (Nat.le_of_ble_eq_true rfl) dX5_choose_19 (show (0 : Int32) = (mdChoose m v).1 by first | rfl | (simp only [mdChoose, if_pos c_11]; first | done | rfl)) (show wMd G a (1, m.2.1, m.2.2.1, m.2.2.2.1, m.2.2.2.2.1, m.2.2.2.2.2.1, m.2.2.2.2.2.2) = wMd G a ((mdChoose m v).2) by first | rfl | (simp only [mdChoose, if_pos c_11]; first | done | rfl))
