/-! the check: the body, written as its code does it -/
def sMin (x y : Int32) : Int32 := if y ≤ x then y else x
def sMax (x y : Int32) : Int32 := if y ≤ x then x else y
def mdSidesF (sd : Nat → Int32) (t : Nat) (x1 x2 y1 y2 : Int32) : Nat → Int32 := upd (upd (upd (upd sd (4 * t) (sMin x1 x2)) (4 * t + 1) (sMax x1 x2)) (4 * t + 2) (sMin y1 y2)) (4 * t + 3) (sMax y1 y2)
def mdSidesP (s : tMS) (V : tMV) (sd : Nat → Int32) (t u v : Nat) : Nat → Int32 := mdSidesF sd t (mdPl s V 0 u) (mdPl s V 0 v) (mdPl s V 1 u) (mdPl s V 1 v)
def mdFlat (sd : Nat → Int32) (t : Nat) : Int32 := if sd (4 * t) = sd (4 * t + 1) then 1 else if sd (4 * t + 2) = sd (4 * t + 3) then 1 else 0
def mdLies (sd : Nat → Int32) (t u : Nat) : Int32 := if sd (4 * t) < sd (4 * u) then 0 else if sd (4 * u + 1) < sd (4 * t + 1) then 0 else if sd (4 * t + 2) < sd (4 * u + 2) then 0 else if sd (4 * u + 3) < sd (4 * t + 3) then 0 else 1
/-- the body's things are in their rows -/
def mdBok (B : tMB) : Prop := B.2.1 ≤ 15 ∧ B.2.2.1 ≤ 15 ∧ B.2.2.2.2.1 ≤ 8 ∧ ∀ k, k < B.2.2.2.2.1 → B.2.2.2.2.2.1 k ≤ 15 ∧ B.2.2.2.2.2.2.1 k ≤ 15 ∧ (B.2.2.2.2.2.2.2.2 k = -1 ∨ iN (B.2.2.2.2.2.2.2.2 k) < k)
def mdSd0 (s : tMS) (V : tMV) (B : tMB) (sd : Nat → Int32) : Nat → Int32 := if B.1 = 0 then sd else mdSidesP s V sd 8 B.2.1 B.2.2.1
def mdFl8 (B : tMB) (sd : Nat → Int32) : Int32 := if B.1 = 0 then 1 else if mdFlat sd 8 = 0 then 0 else 1
def mdInn (B : tMB) (k : Nat) : Nat := if B.2.2.2.2.2.2.2.2 k = -1 then 8 else iN (B.2.2.2.2.2.2.2.2 k)
def mdBg (B : tMB) (bg : Nat → Int32) (k : Nat) : Int32 := if nI (mdInn B k) = 8 then 0 else bg (mdInn B k) + B.2.2.2.2.2.2.2.1 (mdInn B k)
def mdFl (B : tMB) (sd fl : Nat → Int32) (b : Int32) (k : Nat) : Int32 := if mdFlat sd k = 0 then (if fl (mdInn B k) = 0 then (if mdLies sd k (mdInn B k) = 0 then 1 else if b + B.2.2.2.2.2.2.2.1 k < B.2.2.2.1 then 0 else 1) else 1) else 1
def mdBuildK (s : tMS) (V : tMV) (B : tMB) (Q : tMQ) : Nat → tMQ
  | 0 => Q
  | k + 1 => (mdSidesP s V (mdBuildK s V B Q k).1 k (B.2.2.2.2.2.1 k) (B.2.2.2.2.2.2.1 k), upd (mdBuildK s V B Q k).2.1 k (mdBg B (mdBuildK s V B Q k).2.1 k), upd (mdBuildK s V B Q k).2.2 k (mdFl B (mdSidesP s V (mdBuildK s V B Q k).1 k (B.2.2.2.2.2.1 k) (B.2.2.2.2.2.2.1 k)) (mdBuildK s V B Q k).2.2 (mdBg B (mdBuildK s V B Q k).2.1 k) k))
def mdBuild (s : tMS) (V : tMV) (B : tMB) (Q : tMQ) : tMQ := mdBuildK s V B (mdSd0 s V B Q.1, Q.2.1, upd Q.2.2 8 (mdFl8 B (mdSd0 s V B Q.1))) B.2.2.2.2.1
theorem mdFl01 (B : tMB) (sd fl : Nat → Int32) (b : Int32) (k : Nat) : mdFl B sd fl b k = 0 ∨ mdFl B sd fl b k = 1 := by
  unfold mdFl
  split
  · split
    · split
      · exact Or.inr rfl
      · split
        · exact Or.inl rfl
        · exact Or.inr rfl
    · exact Or.inr rfl
  · exact Or.inr rfl
theorem mdBuildK01 (s : tMS) (V : tMV) (B : tMB) (Q : tMQ) (p : Nat) : ∀ k, p < k → (mdBuildK s V B Q k).2.2 p = 0 ∨ (mdBuildK s V B Q k).2.2 p = 1
  | 0, h => absurd h (Nat.not_lt_zero _)
  | k + 1, h => by
    show upd _ k _ p = 0 ∨ upd _ k _ p = 1
    by_cases e : p = k
    · subst e; rw [pk_us]; exact mdFl01 _ _ _ _ _
    · rw [pk_un e]; exact mdBuildK01 s V B Q p k (by omega)
def mdSbT (m : tMd) (i j h : Int32) : Int32 := if mdIn i 0 (nI m.2.1.1 - 1) = 0 then 1 else if mdIn j 0 (nI m.2.1.1 - 1) = 0 then 1 else if mdIn h 1 50 = 0 then 2 else 0
def mdSetS (m : tMd) (i j h : Int32) : tMd := (mdSbT m i j h, m.2.1, m.2.2.1, (mdSolve m.2.1 m.2.2.2.1), (1, iN i, iN j, h, m.2.2.2.2.1.2.2.2.2.1, m.2.2.2.2.1.2.2.2.2.2.1, m.2.2.2.2.1.2.2.2.2.2.2.1, m.2.2.2.2.1.2.2.2.2.2.2.2.1, m.2.2.2.2.1.2.2.2.2.2.2.2.2), (mdBuild m.2.1 (mdSolve m.2.1 m.2.2.2.1) (1, iN i, iN j, h, m.2.2.2.2.1.2.2.2.2) m.2.2.2.2.2.1), m.2.2.2.2.2.2)
def mdSetB (m : tMd) (i j h : Int32) : Int32 × tMd := if mdSbT m i j h ≤ 0 then ((if (mdSetS m i j h).2.2.2.2.2.1.2.2 8 = 0 then 1 else 0), mdSetS m i j h) else (0, (mdSbT m i j h, m.2.1, m.2.2.1, m.2.2.2.1, m.2.2.2.2.1, m.2.2.2.2.2.1, m.2.2.2.2.2.2))
def mdPocket (m : tMd) (i j d q : Int32) : Int32 × tMd := if mdIn i 0 (nI m.2.1.1 - 1) = 0 then (0, (1, m.2.1, m.2.2.1, m.2.2.2.1, m.2.2.2.2.1, m.2.2.2.2.2.1, m.2.2.2.2.2.2)) else if mdIn j 0 (nI m.2.1.1 - 1) = 0 then (0, (1, m.2.1, m.2.2.1, m.2.2.2.1, m.2.2.2.2.1, m.2.2.2.2.2.1, m.2.2.2.2.2.2)) else if mdIn q (-1) (nI m.2.2.2.2.1.2.2.2.2.1 - 1) = 0 then (0, (1, m.2.1, m.2.2.1, m.2.2.2.1, m.2.2.2.2.1, m.2.2.2.2.2.1, m.2.2.2.2.2.2)) else if mdIn d 1 50 = 0 then (0, (2, m.2.1, m.2.2.1, m.2.2.2.1, m.2.2.2.2.1, m.2.2.2.2.2.1, m.2.2.2.2.2.2)) else if m.2.2.2.2.1.1 = 0 then (0, (3, m.2.1, m.2.2.1, m.2.2.2.1, m.2.2.2.2.1, m.2.2.2.2.2.1, m.2.2.2.2.2.2)) else if nI m.2.2.2.2.1.2.2.2.2.1 = 8 then (0, (3, m.2.1, m.2.2.1, m.2.2.2.1, m.2.2.2.2.1, m.2.2.2.2.2.1, m.2.2.2.2.2.2)) else (nI m.2.2.2.2.1.2.2.2.2.1, (0, m.2.1, m.2.2.1, m.2.2.2.1, (m.2.2.2.2.1.1, m.2.2.2.2.1.2.1, m.2.2.2.2.1.2.2.1, m.2.2.2.2.1.2.2.2.1, m.2.2.2.2.1.2.2.2.2.1 + 1, updN m.2.2.2.2.1.2.2.2.2.2.1 m.2.2.2.2.1.2.2.2.2.1 (iN i), updN m.2.2.2.2.1.2.2.2.2.2.2.1 m.2.2.2.2.1.2.2.2.2.1 (iN j), upd m.2.2.2.2.1.2.2.2.2.2.2.2.1 m.2.2.2.2.1.2.2.2.2.1 d, upd m.2.2.2.2.1.2.2.2.2.2.2.2.2 m.2.2.2.2.1.2.2.2.2.1 q), m.2.2.2.2.2.1, m.2.2.2.2.2.2))
def mdFaT (m : tMd) (p : Int32) : Int32 := if mdIn p 0 (nI m.2.2.2.2.1.2.2.2.2.1 - 1) = 0 then 1 else 0
def mdBuilt (m : tMd) (t : Int32) : tMd := (t, m.2.1, m.2.2.1, (mdSolve m.2.1 m.2.2.2.1), m.2.2.2.2.1, (mdBuild m.2.1 (mdSolve m.2.1 m.2.2.2.1) m.2.2.2.2.1 m.2.2.2.2.2.1), m.2.2.2.2.2.2)
def mdFails (m : tMd) (p : Int32) : Int32 × tMd := if mdFaT m p ≤ 0 then ((mdBuilt m (mdFaT m p)).2.2.2.2.2.1.2.2 (iN p), mdBuilt m (mdFaT m p)) else (0, (mdFaT m p, m.2.1, m.2.2.1, m.2.2.2.1, m.2.2.2.2.1, m.2.2.2.2.2.1, m.2.2.2.2.2.2))
/-- one step of the rows' ordering: the value at a place goes down to where it belongs -/
def swB : Nat → (Nat → Int32) → Nat → Int32
  | 0, f => f
  | k + 1, f => if f k ≤ f (k + 1) then f else swB k (upd (upd f (k + 1) (f k)) k (f (k + 1)))
def srtK (f : Nat → Int32) : Nat → (Nat → Int32)
  | 0 => f
  | i + 1 => swB (i + 1) (srtK f i)
def mdAcr (sd : Nat → Int32) (x y : Int32) (k : Nat) : Int32 := if x < sd (4 * k) then 0 else if sd (4 * k + 1) ≤ x then 0 else if y < sd (4 * k + 2) then 0 else if sd (4 * k + 3) ≤ y then 0 else 1
def mdIsK (B : tMB) (Q : tMQ) (x y z : Int32) : Nat → Int32
  | 0 => 0
  | k + 1 => if mdIsK B Q x y z k = 0 then (if Q.2.2 k = 0 then (if mdAcr Q.1 x y k = 0 then 0 else if z < Q.2.1 k then 0 else if Q.2.1 k + B.2.2.2.2.2.2.2.1 k ≤ z then 0 else 1) else 0) else 1
theorem mdIsK01 (B : tMB) (Q : tMQ) (x y z : Int32) : ∀ k, mdIsK B Q x y z k = 0 ∨ mdIsK B Q x y z k = 1
  | 0 => Or.inl rfl
  | k + 1 => by
    rw [mdIsK]
    split
    · split
      · split
        · exact Or.inl rfl
        · split
          · exact Or.inl rfl
          · split
            · exact Or.inl rfl
            · exact Or.inr rfl
      · exact Or.inl rfl
    · exact Or.inr rfl
def mdFillK (B : tMB) (Q : tMQ) (C : tMC) : Nat → Nat × tMC
  | 0 => (0, C)
  | k + 1 => if Q.2.2 k = 0 then ((mdFillK B Q C k).1 + 2, upd (upd (mdFillK B Q C k).2.1 (mdFillK B Q C k).1 (Q.1 (4 * k))) ((mdFillK B Q C k).1 + 1) (Q.1 (4 * k + 1)), upd (upd (mdFillK B Q C k).2.2.1 (mdFillK B Q C k).1 (Q.1 (4 * k + 2))) ((mdFillK B Q C k).1 + 1) (Q.1 (4 * k + 3)), upd (upd (mdFillK B Q C k).2.2.2 (mdFillK B Q C k).1 (Q.2.1 k)) ((mdFillK B Q C k).1 + 1) (Q.2.1 k + B.2.2.2.2.2.2.2.1 k)) else mdFillK B Q C k
theorem mdFillK_le (B : tMB) (Q : tMQ) (C : tMC) : ∀ k, (mdFillK B Q C k).1 ≤ 2 * k
  | 0 => Nat.le_refl _
  | k + 1 => by
    have h := mdFillK_le B Q C k
    rw [mdFillK]
    split
    · show (mdFillK B Q C k).1 + 2 ≤ _
      omega
    · omega
def mdCell (C : tMC) (a b c : Nat) : Int32 := (C.1 (a + 1) - C.1 a) * (C.2.1 (b + 1) - C.2.1 b) * (C.2.2 (c + 1) - C.2.2 c)
def mdO3 (B : tMB) (Q : tMQ) (C : tMC) (a b : Nat) (t : Int32) : Nat → Int32
  | 0 => t
  | c + 1 => mdO3 B Q C a b t c + (if mdCell C a b c ≤ 0 then 0 else if mdIsK B Q (C.1 a) (C.2.1 b) (C.2.2 c) B.2.2.2.2.1 = 0 then 0 else mdCell C a b c)
def mdO2 (B : tMB) (Q : tMQ) (C : tMC) (n a : Nat) (t : Int32) : Nat → Int32
  | 0 => t
  | b + 1 => mdO3 B Q C a b (mdO2 B Q C n a t b) (n - 1)
def mdO1 (B : tMB) (Q : tMQ) (C : tMC) (n : Nat) : Nat → Int32
  | 0 => 0
  | a + 1 => mdO2 B Q C n a (mdO1 B Q C n a) (n - 1)
def mdMany (B : tMB) (Q : tMQ) (C : tMC) : Nat := (mdFillK B Q C B.2.2.2.2.1).1
def mdCuts (B : tMB) (Q : tMQ) (C : tMC) : tMC := (srtK (mdFillK B Q C B.2.2.2.2.1).2.1 (mdMany B Q C - 1), srtK (mdFillK B Q C B.2.2.2.2.1).2.2.1 (mdMany B Q C - 1), srtK (mdFillK B Q C B.2.2.2.2.1).2.2.2 (mdMany B Q C - 1))
def mdOut (B : tMB) (Q : tMQ) (C : tMC) : Int32 := mdO1 B Q (mdCuts B Q C) (mdMany B Q C) (mdMany B Q C - 1)
def mdWhole (B : tMB) (Q : tMQ) : Int32 := (Q.1 33 - Q.1 32) * (Q.1 35 - Q.1 34) * B.2.2.2.1
def mdFuK (fl de : Nat → Int32) (k : Nat) : Nat → Int32
  | 0 => if fl k = 0 then 1 else 0
  | n + 1 => if mdFuK fl de k n = 0 then 0 else if fl n = 0 then (if de n = de k then 0 else 1) else 1
def mdUn (fl de : Nat → Int32) : Nat → Int32
  | 0 => 0
  | k + 1 => mdUn fl de k + (if mdFuK fl de k k = 0 then 0 else 1)
def mdVolume (m : tMd) : Int32 × tMd := if (mdBuilt m 0).2.2.2.2.2.1.2.2 8 = 0 then (mdWhole (mdBuilt m 0).2.2.2.2.1 (mdBuilt m 0).2.2.2.2.2.1 - mdOut (mdBuilt m 0).2.2.2.2.1 (mdBuilt m 0).2.2.2.2.2.1 (mdBuilt m 0).2.2.2.2.2.2, ((mdBuilt m 0).1, (mdBuilt m 0).2.1, (mdBuilt m 0).2.2.1, (mdBuilt m 0).2.2.2.1, (mdBuilt m 0).2.2.2.2.1, (mdBuilt m 0).2.2.2.2.2.1, mdCuts (mdBuilt m 0).2.2.2.2.1 (mdBuilt m 0).2.2.2.2.2.1 (mdBuilt m 0).2.2.2.2.2.2)) else (0, mdBuilt m 0)
def mdPrice (m : tMd) : Int32 × tMd := if (mdBuilt m 0).2.2.2.2.2.1.2.2 8 = 0 then (2 * mdWhole (mdBuilt m 0).2.2.2.2.1 (mdBuilt m 0).2.2.2.2.2.1 + mdOut (mdBuilt m 0).2.2.2.2.1 (mdBuilt m 0).2.2.2.2.2.1 (mdBuilt m 0).2.2.2.2.2.2 + 100 * mdUn (mdBuilt m 0).2.2.2.2.2.1.2.2 (mdBuilt m 0).2.2.2.2.1.2.2.2.2.2.2.2.1 (mdBuilt m 0).2.2.2.2.1.2.2.2.2.1, ((mdBuilt m 0).1, (mdBuilt m 0).2.1, (mdBuilt m 0).2.2.1, (mdBuilt m 0).2.2.2.1, (mdBuilt m 0).2.2.2.2.1, (mdBuilt m 0).2.2.2.2.2.1, mdCuts (mdBuilt m 0).2.2.2.2.1 (mdBuilt m 0).2.2.2.2.2.1 (mdBuilt m 0).2.2.2.2.2.2)) else (0, mdBuilt m 0)

theorem wiX5_sides_sides_X5 : ∀ w ∈ wsX50, w ∈ wsX5_sides := by decide +kernel
theorem wmX5_sides_sides_0 : Cond.fieldLink RX5 56 "PartSketchModel" "side" "[I" ∈ wsX5_sides := by decide +kernel
set_option maxHeartbeats 4000000 in
set_option maxRecDepth 100000 in
/-- sides -/
theorem c_sides (l : Launch) (G : gT) (a : aMd) (m : tMd) (t : Nat) (u : Nat) (v : Nat) (ht : t ≤ 8) (hu : u < 16) (hv : v < 16) (sz : Nat) : MV l yX5_sides wsX5_sides ({ frames := 1, cells := 0, slots := 0, locals := 26 }) G [.ref (a 0), .int (nI t), .int (nI u), .int (nI v)] (wMd G a m) (wMd G a (m.1, m.2.1, m.2.2.1, m.2.2.2.1, m.2.2.2.2.1, ((mdSidesP m.2.1 m.2.2.2.1 m.2.2.2.2.2.1.1 t u v), m.2.2.2.2.2.1.2.1, m.2.2.2.2.2.1.2.2), m.2.2.2.2.2.2)) sz 0 0 := by
  refine m_of (Qc := fun A9 => (va_Qv (fun (_ : Unit) => True) (fun _ t9 => wPost G A9 (wMd G a (m.1, m.2.1, m.2.2.1, m.2.2.2.1, m.2.2.2.2.1, ((mdSidesP m.2.1 m.2.2.2.1 m.2.2.2.2.2.1.1 t u v), m.2.2.2.2.2.1.2.1, m.2.2.2.2.2.1.2.2), m.2.2.2.2.2.2)) t9) A9)) (cc := cX5_sides) (maxL := 8) (ret := none) (by decide) rfl (Nat.le_of_ble_eq_true rfl) ?_
  intro p9 e9 s9 m9 A9 be9 mt9 c9 H locs ls hx hb hr hts hown hlocks hin hml hK hA hw hl
  have hl : lv_has ls 8 [(0, .ref (a 0)), (1, .int (nI t)), (2, .int (nI u)), (3, .int (nI v))] := hl
  refine lv_aload_n hx hb dX5_sides_0 rfl (lv_at hl 0 rfl) ?_
  refine lv_iconst (v := 0) hx hb dX5_sides_1 (by decide) ?_
  refine lv_iload_n hx hb dX5_sides_2 rfl (lv_at hl 2 rfl) ?_
  have hwc : wW G A9 s9.heap (([] : va_W) ++ ((wMd G a m) ++ ([] : va_W))) H locs := hw
  refine r_calli (res := (mdPl m.2.1 m.2.2.2.1 0 u)) (u := ([] : va_W)) (w := wMd G a m) (v := ([] : va_W)) (va_runV (As := [.int 0, .int (nI u)]) (rest := []) ⟨hx, hb, hml, hown, hts⟩ (c_place0 l G a m u (by first | assumption | omega | decide) H.size) (cwV 2 hts gX5_sides_X5_placeOf rfl rfl rfl (by decide +kernel) ⟨Nat.le_of_ble_eq_true rfl, Nat.le_of_ble_eq_true rfl⟩) (r_preV (ci := 5) (q0 := 0) hK hwc rfl rfl rfl) rfl rfl hl.1 rfl (lv_room (Nat.le_of_ble_eq_true rfl)) dX5_sides_3 ⟨Nat.le_of_ble_eq_true rfl, Nat.le_of_ble_eq_true rfl⟩) hwc hA rfl rfl (fun H locs hw => ?_)
  have hw : wW G A9 s9.heap (wMd G a m) H locs := hw
  refine lv_istore (lv' := [(4, .int (mdPl m.2.1 m.2.2.2.1 0 u)), (0, .ref (a 0)), (1, .int (nI t)), (2, .int (nI u)), (3, .int (nI v))]) hx hb dX5_sides_6 hl (by decide) rfl (fun ls hl => ?_)
  refine lv_aload_n hx hb dX5_sides_8 rfl (lv_at hl 1 rfl) ?_
  refine lv_iconst (v := 0) hx hb dX5_sides_9 (by decide) ?_
  refine lv_iload_n hx hb dX5_sides_10 rfl (lv_at hl 4 rfl) ?_
  have hwc : wW G A9 s9.heap (([] : va_W) ++ ((wMd G a m) ++ ([] : va_W))) H locs := hw
  refine r_calli (res := (mdPl m.2.1 m.2.2.2.1 0 v)) (u := ([] : va_W)) (w := wMd G a m) (v := ([] : va_W)) (va_runV (As := [.int 0, .int (nI v)]) (rest := []) ⟨hx, hb, hml, hown, hts⟩ (c_place0 l G a m v (by first | assumption | omega | decide) H.size) (cwV 2 hts gX5_sides_X5_placeOf rfl rfl rfl (by decide +kernel) ⟨Nat.le_of_ble_eq_true rfl, Nat.le_of_ble_eq_true rfl⟩) (r_preV (ci := 5) (q0 := 0) hK hwc rfl rfl rfl) rfl rfl hl.1 rfl (lv_room (Nat.le_of_ble_eq_true rfl)) dX5_sides_11 ⟨Nat.le_of_ble_eq_true rfl, Nat.le_of_ble_eq_true rfl⟩) hwc hA rfl rfl (fun H locs hw => ?_)
  have hw : wW G A9 s9.heap (wMd G a m) H locs := hw
  refine lv_istore (lv' := [(5, .int (mdPl m.2.1 m.2.2.2.1 0 v)), (4, .int (mdPl m.2.1 m.2.2.2.1 0 u)), (0, .ref (a 0)), (1, .int (nI t)), (2, .int (nI u)), (3, .int (nI v))]) hx hb dX5_sides_14 hl (by decide) rfl (fun ls hl => ?_)
  refine lv_aload_n hx hb dX5_sides_16 rfl (lv_at hl 2 rfl) ?_
  refine lv_iconst (v := 1) hx hb dX5_sides_17 (by decide) ?_
  refine lv_iload_n hx hb dX5_sides_18 rfl (lv_at hl 4 rfl) ?_
  have hwc : wW G A9 s9.heap (([] : va_W) ++ ((wMd G a m) ++ ([] : va_W))) H locs := hw
  refine r_calli (res := (mdPl m.2.1 m.2.2.2.1 1 u)) (u := ([] : va_W)) (w := wMd G a m) (v := ([] : va_W)) (va_runV (As := [.int 1, .int (nI u)]) (rest := []) ⟨hx, hb, hml, hown, hts⟩ (c_place1 l G a m u (by first | assumption | omega | decide) H.size) (cwV 2 hts gX5_sides_X5_placeOf rfl rfl rfl (by decide +kernel) ⟨Nat.le_of_ble_eq_true rfl, Nat.le_of_ble_eq_true rfl⟩) (r_preV (ci := 5) (q0 := 0) hK hwc rfl rfl rfl) rfl rfl hl.1 rfl (lv_room (Nat.le_of_ble_eq_true rfl)) dX5_sides_19 ⟨Nat.le_of_ble_eq_true rfl, Nat.le_of_ble_eq_true rfl⟩) hwc hA rfl rfl (fun H locs hw => ?_)
  have hw : wW G A9 s9.heap (wMd G a m) H locs := hw
  refine lv_istore (lv' := [(6, .int (mdPl m.2.1 m.2.2.2.1 1 u)), (5, .int (mdPl m.2.1 m.2.2.2.1 0 v)), (4, .int (mdPl m.2.1 m.2.2.2.1 0 u)), (0, .ref (a 0)), (1, .int (nI t)), (2, .int (nI u)), (3, .int (nI v))]) hx hb dX5_sides_22 hl (by decide) rfl (fun ls hl => ?_)
  refine lv_aload_n hx hb dX5_sides_24 rfl (lv_at hl 3 rfl) ?_
  refine lv_iconst (v := 1) hx hb dX5_sides_25 (by decide) ?_
  refine lv_iload_n hx hb dX5_sides_26 rfl (lv_at hl 6 rfl) ?_
  have hwc : wW G A9 s9.heap (([] : va_W) ++ ((wMd G a m) ++ ([] : va_W))) H locs := hw
  refine r_calli (res := (mdPl m.2.1 m.2.2.2.1 1 v)) (u := ([] : va_W)) (w := wMd G a m) (v := ([] : va_W)) (va_runV (As := [.int 1, .int (nI v)]) (rest := []) ⟨hx, hb, hml, hown, hts⟩ (c_place1 l G a m v (by first | assumption | omega | decide) H.size) (cwV 2 hts gX5_sides_X5_placeOf rfl rfl rfl (by decide +kernel) ⟨Nat.le_of_ble_eq_true rfl, Nat.le_of_ble_eq_true rfl⟩) (r_preV (ci := 5) (q0 := 0) hK hwc rfl rfl rfl) rfl rfl hl.1 rfl (lv_room (Nat.le_of_ble_eq_true rfl)) dX5_sides_27 ⟨Nat.le_of_ble_eq_true rfl, Nat.le_of_ble_eq_true rfl⟩) hwc hA rfl rfl (fun H locs hw => ?_)
  have hw : wW G A9 s9.heap (wMd G a m) H locs := hw
  refine lv_istore (lv' := [(7, .int (mdPl m.2.1 m.2.2.2.1 1 v)), (6, .int (mdPl m.2.1 m.2.2.2.1 1 u)), (5, .int (mdPl m.2.1 m.2.2.2.1 0 v)), (4, .int (mdPl m.2.1 m.2.2.2.1 0 u)), (0, .ref (a 0)), (1, .int (nI t)), (2, .int (nI u)), (3, .int (nI v))]) hx hb dX5_sides_30 hl (by decide) rfl (fun ls hl => ?_)
  refine lv_aload_n hx hb dX5_sides_32 rfl (lv_at hl 4 rfl) ?_
  refine r_get (ci := 5) (v := .ref (a 16)) (C := RX5) (T := TX5) (N := 29) hx hb hts wiX5_sides_sides_X5 hown hK hw 0 rfl rfl 23 (by decide) wmX5_sides_sides_0 (fun _ h9 => h9) rfl dX5_sides_33 ?_
  refine lv_iconst (v := 4) hx hb dX5_sides_36 (by decide) ?_
  refine lv_iload_n hx hb dX5_sides_37 rfl (lv_at hl 5 rfl) ?_
  refine lv_imul hx hb dX5_sides_38 ?_
  refine r_top (y := nI (4 * t)) (pk_mul 4 t) ?_
  have join_53 : ∀ (w1 : Int32) (h1 : w1 = sMin (mdPl m.2.1 m.2.2.2.1 0 u) (mdPl m.2.1 m.2.2.2.1 0 v)) (H : Heap) (locs : List Loc) (ls : Array Slot), wW G A9 s9.heap (wMd G a m) H locs → lv_has ls 8 [(0, .ref (a 0)), (1, .int (nI t)), (2, .int (nI u)), (3, .int (nI v)), (4, .int (mdPl m.2.1 m.2.2.2.1 0 u)), (5, .int (mdPl m.2.1 m.2.2.2.1 0 v)), (6, .int (mdPl m.2.1 m.2.2.2.1 1 u)), (7, .int (mdPl m.2.1 m.2.2.2.1 1 v))] → W p9 l e9 ({ frames := 1, cells := 0, slots := 0, locals := 26 }) s9 m9 [.ref (a 0), .int (nI t), .int (nI u), .int (nI v)].toArray be9 mt9 c9 H locs 0 0 (MQ be9 (va_Qv (fun (_ : Unit) => True) (fun _ t9 => wPost G A9 (wMd G a (m.1, m.2.1, m.2.2.1, m.2.2.2.1, m.2.2.2.2.1, ((mdSidesP m.2.1 m.2.2.2.1 m.2.2.2.2.2.1.1 t u v), m.2.2.2.2.2.1.2.1, m.2.2.2.2.2.1.2.2), m.2.2.2.2.2.2)) t9) A9) [.ref (a 0), .int (nI t), .int (nI u), .int (nI v)].toArray s9 0 0 A9) (F0 m9 53 ls [.int w1, .int (nI (4 * t)), .ref (a 16)]) := by
    intro w1 h1 H locs ls hw hl
    refine r_iast hx hb hK hw 16 rfl (4 * t) rfl (by omega) (by decide) dX5_sides_53 (ws' := wMd G a (m.1, m.2.1, m.2.2.1, m.2.2.2.1, m.2.2.2.2.1, ((upd m.2.2.2.2.2.1.1 (4 * t) w1), m.2.2.2.2.2.1.2.1, m.2.2.2.2.2.1.2.2), m.2.2.2.2.2.2)) rfl (fun H locs hw => ?_)
    refine lv_aload_n hx hb dX5_sides_54 rfl (lv_at hl 0 rfl) ?_
    refine r_get (ci := 5) (v := .ref (a 16)) (C := RX5) (T := TX5) (N := 29) hx hb hts wiX5_sides_sides_X5 hown hK hw 0 rfl rfl 23 (by decide) wmX5_sides_sides_0 (fun _ h9 => h9) rfl dX5_sides_55 ?_
    refine lv_iconst (v := 4) hx hb dX5_sides_58 (by decide) ?_
    refine lv_iload_n hx hb dX5_sides_59 rfl (lv_at hl 1 rfl) ?_
    refine lv_imul hx hb dX5_sides_60 ?_
    refine r_top (y := nI (4 * t)) (pk_mul 4 t) ?_
    refine lv_iconst (v := 1) hx hb dX5_sides_61 (by decide) ?_
    refine lv_iadd hx hb dX5_sides_62 ?_
    refine r_top (y := nI ((4 * t) + 1)) (nI_add (4 * t) 1) ?_
    have join_77 : ∀ (w2 : Int32) (h2 : w2 = sMax (mdPl m.2.1 m.2.2.2.1 0 u) (mdPl m.2.1 m.2.2.2.1 0 v)) (H : Heap) (locs : List Loc) (ls : Array Slot), wW G A9 s9.heap (wMd G a (m.1, m.2.1, m.2.2.1, m.2.2.2.1, m.2.2.2.2.1, ((upd m.2.2.2.2.2.1.1 (4 * t) w1), m.2.2.2.2.2.1.2.1, m.2.2.2.2.2.1.2.2), m.2.2.2.2.2.2)) H locs → lv_has ls 8 [(0, .ref (a 0)), (1, .int (nI t)), (2, .int (nI u)), (3, .int (nI v)), (4, .int (mdPl m.2.1 m.2.2.2.1 0 u)), (5, .int (mdPl m.2.1 m.2.2.2.1 0 v)), (6, .int (mdPl m.2.1 m.2.2.2.1 1 u)), (7, .int (mdPl m.2.1 m.2.2.2.1 1 v))] → W p9 l e9 ({ frames := 1, cells := 0, slots := 0, locals := 26 }) s9 m9 [.ref (a 0), .int (nI t), .int (nI u), .int (nI v)].toArray be9 mt9 c9 H locs 0 0 (MQ be9 (va_Qv (fun (_ : Unit) => True) (fun _ t9 => wPost G A9 (wMd G a (m.1, m.2.1, m.2.2.1, m.2.2.2.1, m.2.2.2.2.1, ((mdSidesP m.2.1 m.2.2.2.1 m.2.2.2.2.2.1.1 t u v), m.2.2.2.2.2.1.2.1, m.2.2.2.2.2.1.2.2), m.2.2.2.2.2.2)) t9) A9) [.ref (a 0), .int (nI t), .int (nI u), .int (nI v)].toArray s9 0 0 A9) (F0 m9 77 ls [.int w2, .int (nI (4 * t + 1)), .ref (a 16)]) := by
      intro w2 h2 H locs ls hw hl
      refine r_iast hx hb hK hw 16 rfl (4 * t + 1) rfl (by omega) (by decide) dX5_sides_77 (ws' := wMd G a (m.1, m.2.1, m.2.2.1, m.2.2.2.1, m.2.2.2.2.1, ((upd (upd m.2.2.2.2.2.1.1 (4 * t) w1) (4 * t + 1) w2), m.2.2.2.2.2.1.2.1, m.2.2.2.2.2.1.2.2), m.2.2.2.2.2.2)) rfl (fun H locs hw => ?_)
      refine lv_aload_n hx hb dX5_sides_78 rfl (lv_at hl 0 rfl) ?_
      refine r_get (ci := 5) (v := .ref (a 16)) (C := RX5) (T := TX5) (N := 29) hx hb hts wiX5_sides_sides_X5 hown hK hw 0 rfl rfl 23 (by decide) wmX5_sides_sides_0 (fun _ h9 => h9) rfl dX5_sides_79 ?_
      refine lv_iconst (v := 4) hx hb dX5_sides_82 (by decide) ?_
      refine lv_iload_n hx hb dX5_sides_83 rfl (lv_at hl 1 rfl) ?_
      refine lv_imul hx hb dX5_sides_84 ?_
      refine r_top (y := nI (4 * t)) (pk_mul 4 t) ?_
      refine lv_iconst (v := 2) hx hb dX5_sides_85 (by decide) ?_
      refine lv_iadd hx hb dX5_sides_86 ?_
      refine r_top (y := nI ((4 * t) + 2)) (nI_add (4 * t) 2) ?_
      have join_101 : ∀ (w3 : Int32) (h3 : w3 = sMin (mdPl m.2.1 m.2.2.2.1 1 u) (mdPl m.2.1 m.2.2.2.1 1 v)) (H : Heap) (locs : List Loc) (ls : Array Slot), wW G A9 s9.heap (wMd G a (m.1, m.2.1, m.2.2.1, m.2.2.2.1, m.2.2.2.2.1, ((upd (upd m.2.2.2.2.2.1.1 (4 * t) w1) (4 * t + 1) w2), m.2.2.2.2.2.1.2.1, m.2.2.2.2.2.1.2.2), m.2.2.2.2.2.2)) H locs → lv_has ls 8 [(0, .ref (a 0)), (1, .int (nI t)), (2, .int (nI u)), (3, .int (nI v)), (4, .int (mdPl m.2.1 m.2.2.2.1 0 u)), (5, .int (mdPl m.2.1 m.2.2.2.1 0 v)), (6, .int (mdPl m.2.1 m.2.2.2.1 1 u)), (7, .int (mdPl m.2.1 m.2.2.2.1 1 v))] → W p9 l e9 ({ frames := 1, cells := 0, slots := 0, locals := 26 }) s9 m9 [.ref (a 0), .int (nI t), .int (nI u), .int (nI v)].toArray be9 mt9 c9 H locs 0 0 (MQ be9 (va_Qv (fun (_ : Unit) => True) (fun _ t9 => wPost G A9 (wMd G a (m.1, m.2.1, m.2.2.1, m.2.2.2.1, m.2.2.2.2.1, ((mdSidesP m.2.1 m.2.2.2.1 m.2.2.2.2.2.1.1 t u v), m.2.2.2.2.2.1.2.1, m.2.2.2.2.2.1.2.2), m.2.2.2.2.2.2)) t9) A9) [.ref (a 0), .int (nI t), .int (nI u), .int (nI v)].toArray s9 0 0 A9) (F0 m9 101 ls [.int w3, .int (nI (4 * t + 2)), .ref (a 16)]) := by
        intro w3 h3 H locs ls hw hl
        refine r_iast hx hb hK hw 16 rfl (4 * t + 2) rfl (by omega) (by decide) dX5_sides_101 (ws' := wMd G a (m.1, m.2.1, m.2.2.1, m.2.2.2.1, m.2.2.2.2.1, ((upd (upd (upd m.2.2.2.2.2.1.1 (4 * t) w1) (4 * t + 1) w2) (4 * t + 2) w3), m.2.2.2.2.2.1.2.1, m.2.2.2.2.2.1.2.2), m.2.2.2.2.2.2)) rfl (fun H locs hw => ?_)
        refine lv_aload_n hx hb dX5_sides_102 rfl (lv_at hl 0 rfl) ?_
        refine r_get (ci := 5) (v := .ref (a 16)) (C := RX5) (T := TX5) (N := 29) hx hb hts wiX5_sides_sides_X5 hown hK hw 0 rfl rfl 23 (by decide) wmX5_sides_sides_0 (fun _ h9 => h9) rfl dX5_sides_103 ?_
        refine lv_iconst (v := 4) hx hb dX5_sides_106 (by decide) ?_
        refine lv_iload_n hx hb dX5_sides_107 rfl (lv_at hl 1 rfl) ?_
        refine lv_imul hx hb dX5_sides_108 ?_
        refine r_top (y := nI (4 * t)) (pk_mul 4 t) ?_
        refine lv_iconst (v := 3) hx hb dX5_sides_109 (by decide) ?_
        refine lv_iadd hx hb dX5_sides_110 ?_
        refine r_top (y := nI ((4 * t) + 3)) (nI_add (4 * t) 3) ?_
        have join_125 : ∀ (w4 : Int32) (h4 : w4 = sMax (mdPl m.2.1 m.2.2.2.1 1 u) (mdPl m.2.1 m.2.2.2.1 1 v)) (H : Heap) (locs : List Loc) (ls : Array Slot), wW G A9 s9.heap (wMd G a (m.1, m.2.1, m.2.2.1, m.2.2.2.1, m.2.2.2.2.1, ((upd (upd (upd m.2.2.2.2.2.1.1 (4 * t) w1) (4 * t + 1) w2) (4 * t + 2) w3), m.2.2.2.2.2.1.2.1, m.2.2.2.2.2.1.2.2), m.2.2.2.2.2.2)) H locs → lv_has ls 8 [(0, .ref (a 0)), (1, .int (nI t)), (2, .int (nI u)), (3, .int (nI v)), (4, .int (mdPl m.2.1 m.2.2.2.1 0 u)), (5, .int (mdPl m.2.1 m.2.2.2.1 0 v)), (6, .int (mdPl m.2.1 m.2.2.2.1 1 u)), (7, .int (mdPl m.2.1 m.2.2.2.1 1 v))] → W p9 l e9 ({ frames := 1, cells := 0, slots := 0, locals := 26 }) s9 m9 [.ref (a 0), .int (nI t), .int (nI u), .int (nI v)].toArray be9 mt9 c9 H locs 0 0 (MQ be9 (va_Qv (fun (_ : Unit) => True) (fun _ t9 => wPost G A9 (wMd G a (m.1, m.2.1, m.2.2.1, m.2.2.2.1, m.2.2.2.2.1, ((mdSidesP m.2.1 m.2.2.2.1 m.2.2.2.2.2.1.1 t u v), m.2.2.2.2.2.1.2.1, m.2.2.2.2.2.1.2.2), m.2.2.2.2.2.2)) t9) A9) [.ref (a 0), .int (nI t), .int (nI u), .int (nI v)].toArray s9 0 0 A9) (F0 m9 125 ls [.int w4, .int (nI (4 * t + 3)), .ref (a 16)]) := by
          intro w4 h4 H locs ls hw hl
          refine r_iast hx hb hK hw 16 rfl (4 * t + 3) rfl (by omega) (by decide) dX5_sides_125 (ws' := wMd G a (m.1, m.2.1, m.2.2.1, m.2.2.2.1, m.2.2.2.2.1, ((upd (upd (upd (upd m.2.2.2.2.2.1.1 (4 * t) w1) (4 * t + 1) w2) (4 * t + 2) w3) (4 * t + 3) w4), m.2.2.2.2.2.1.2.1, m.2.2.2.2.2.1.2.2), m.2.2.2.2.2.2)) rfl (fun H locs hw => ?_)
          exact m_vret hx hb hr hlocks hK hw (Nat.le_of_ble_eq_true rfl) (Nat.le_of_ble_eq_true rfl) dX5_sides_126 (show wMd G a (m.1, m.2.1, m.2.2.1, m.2.2.2.1, m.2.2.2.2.1, ((upd (upd (upd (upd m.2.2.2.2.2.1.1 (4 * t) w1) (4 * t + 1) w2) (4 * t + 2) w3) (4 * t + 3) w4), m.2.2.2.2.2.1.2.1, m.2.2.2.2.2.1.2.2), m.2.2.2.2.2.2) = wMd G a (m.1, m.2.1, m.2.2.1, m.2.2.2.1, m.2.2.2.2.1, ((mdSidesP m.2.1 m.2.2.2.1 m.2.2.2.2.2.1.1 t u v), m.2.2.2.2.2.1.2.1, m.2.2.2.2.2.1.2.2), m.2.2.2.2.2.2) by subst h1; subst h2; subst h3; subst h4; rfl)
        refine lv_iload hx hb dX5_sides_111 (lv_at hl 6 rfl) ?_
        refine lv_iload hx hb dX5_sides_113 (lv_at hl 7 rfl) ?_
        refine lv_icmp_ge (tgt := 123) hx hb dX5_sides_115 (by decide) (fun c_115 => ?_) (fun c_115 => ?_)
        · refine lv_iload hx hb dX5_sides_123 (lv_at hl 6 rfl) ?_
          exact join_125 (mdPl m.2.1 m.2.2.2.1 1 u) (by simp only [sMax, if_pos c_115]) _ _ _ hw (lv_sub hl [0, 1, 2, 3, 4, 5, 6, 7] rfl)
        · refine lv_iload hx hb dX5_sides_118 (lv_at hl 7 rfl) ?_
          refine lv_goto (tgt := 125) hx hb dX5_sides_120 (by decide) ?_
          exact join_125 (mdPl m.2.1 m.2.2.2.1 1 v) (by simp only [sMax, if_neg c_115]) _ _ _ hw (lv_sub hl [0, 1, 2, 3, 4, 5, 6, 7] rfl)
      refine lv_iload hx hb dX5_sides_87 (lv_at hl 6 rfl) ?_
      refine lv_iload hx hb dX5_sides_89 (lv_at hl 7 rfl) ?_
      refine lv_icmp_ge (tgt := 99) hx hb dX5_sides_91 (by decide) (fun c_91 => ?_) (fun c_91 => ?_)
      · refine lv_iload hx hb dX5_sides_99 (lv_at hl 7 rfl) ?_
        exact join_101 (mdPl m.2.1 m.2.2.2.1 1 v) (by simp only [sMin, if_pos c_91]) _ _ _ hw (lv_sub hl [0, 1, 2, 3, 4, 5, 6, 7] rfl)
      · refine lv_iload hx hb dX5_sides_94 (lv_at hl 6 rfl) ?_
        refine lv_goto (tgt := 101) hx hb dX5_sides_96 (by decide) ?_
        exact join_101 (mdPl m.2.1 m.2.2.2.1 1 u) (by simp only [sMin, if_neg c_91]) _ _ _ hw (lv_sub hl [0, 1, 2, 3, 4, 5, 6, 7] rfl)
    refine lv_iload hx hb dX5_sides_63 (lv_at hl 4 rfl) ?_
    refine lv_iload hx hb dX5_sides_65 (lv_at hl 5 rfl) ?_
    refine lv_icmp_ge (tgt := 75) hx hb dX5_sides_67 (by decide) (fun c_67 => ?_) (fun c_67 => ?_)
    · refine lv_iload hx hb dX5_sides_75 (lv_at hl 4 rfl) ?_
      exact join_77 (mdPl m.2.1 m.2.2.2.1 0 u) (by simp only [sMax, if_pos c_67]) _ _ _ hw (lv_sub hl [0, 1, 2, 3, 4, 5, 6, 7] rfl)
    · refine lv_iload hx hb dX5_sides_70 (lv_at hl 5 rfl) ?_
      refine lv_goto (tgt := 77) hx hb dX5_sides_72 (by decide) ?_
      exact join_77 (mdPl m.2.1 m.2.2.2.1 0 v) (by simp only [sMax, if_neg c_67]) _ _ _ hw (lv_sub hl [0, 1, 2, 3, 4, 5, 6, 7] rfl)
  refine lv_iload hx hb dX5_sides_39 (lv_at hl 3 rfl) ?_
  refine lv_iload hx hb dX5_sides_41 (lv_at hl 2 rfl) ?_
  refine lv_icmp_ge (tgt := 51) hx hb dX5_sides_43 (by decide) (fun c_43 => ?_) (fun c_43 => ?_)
  · refine lv_iload hx hb dX5_sides_51 (lv_at hl 2 rfl) ?_
    exact join_53 (mdPl m.2.1 m.2.2.2.1 0 v) (by simp only [sMin, if_pos c_43]) _ _ _ hw (lv_sub hl [4, 5, 6, 7, 3, 2, 1, 0] rfl)
  · refine lv_iload hx hb dX5_sides_46 (lv_at hl 3 rfl) ?_
    refine lv_goto (tgt := 53) hx hb dX5_sides_48 (by decide) ?_
    exact join_53 (mdPl m.2.1 m.2.2.2.1 0 u) (by simp only [sMin, if_neg c_43]) _ _ _ hw (lv_sub hl [4, 5, 6, 7, 3, 2, 1, 0] rfl)

theorem wiX5_isFlat_flat_X5 : ∀ w ∈ wsX50, w ∈ wsX5_isFlat := by decide +kernel
theorem wmX5_isFlat_flat_0 : Cond.fieldLink RX5 56 "PartSketchModel" "side" "[I" ∈ wsX5_isFlat := by decide +kernel
set_option maxHeartbeats 4000000 in
set_option maxRecDepth 100000 in
/-- isFlat -/
theorem c_flat (l : Launch) (G : gT) (a : aMd) (m : tMd) (t : Nat) (ht : t ≤ 8) (sz : Nat) : MI l yX5_isFlat wsX5_isFlat ({ frames := 0, cells := 0, slots := 0, locals := 0 }) G [.ref (a 0), .int (nI t)] (wMd G a m) (wMd G a m) sz (mdFlat m.2.2.2.2.2.1.1 t) 0 0 := by
  refine m_of (Qc := fun A9 => (va_Qi (fun (r9 : Int32) (_ : Unit) => r9 = (mdFlat m.2.2.2.2.2.1.1 t)) (fun _ t9 => wPost G A9 (wMd G a m) t9) A9)) (cc := cX5_isFlat) (maxL := 2) (ret := (some .boolean)) (by decide) rfl (Nat.le_of_ble_eq_true rfl) ?_
  intro p9 e9 s9 m9 A9 be9 mt9 c9 H locs ls hx hb hr hts hown hlocks hin hml hK hA hw hl
  have hl : lv_has ls 2 [(0, .ref (a 0)), (1, .int (nI t))] := hl
  refine lv_aload_n hx hb dX5_isFlat_0 rfl (lv_at hl 0 rfl) ?_
  refine r_get (ci := 5) (v := .ref (a 16)) (C := RX5) (T := TX5) (N := 29) hx hb hts wiX5_isFlat_flat_X5 hown hK hw 0 rfl rfl 23 (by decide) wmX5_isFlat_flat_0 (fun _ h9 => h9) rfl dX5_isFlat_1 ?_
  refine lv_iconst (v := 4) hx hb dX5_isFlat_4 (by decide) ?_
  refine lv_iload_n hx hb dX5_isFlat_5 rfl (lv_at hl 1 rfl) ?_
  refine lv_imul hx hb dX5_isFlat_6 ?_
  refine r_top (y := nI (4 * t)) (pk_mul 4 t) ?_
  refine r_iald (v := m.2.2.2.2.2.1.1 (4 * t)) hx hb hK hw 16 rfl (4 * t) rfl (by omega) (by decide) rfl dX5_isFlat_7 ?_
  refine lv_aload_n hx hb dX5_isFlat_8 rfl (lv_at hl 0 rfl) ?_
  refine r_get (ci := 5) (v := .ref (a 16)) (C := RX5) (T := TX5) (N := 29) hx hb hts wiX5_isFlat_flat_X5 hown hK hw 0 rfl rfl 23 (by decide) wmX5_isFlat_flat_0 (fun _ h9 => h9) rfl dX5_isFlat_9 ?_
  refine lv_iconst (v := 4) hx hb dX5_isFlat_12 (by decide) ?_
  refine lv_iload_n hx hb dX5_isFlat_13 rfl (lv_at hl 1 rfl) ?_
  refine lv_imul hx hb dX5_isFlat_14 ?_
  refine r_top (y := nI (4 * t)) (pk_mul 4 t) ?_
  refine lv_iconst (v := 1) hx hb dX5_isFlat_15 (by decide) ?_
  refine lv_iadd hx hb dX5_isFlat_16 ?_
  refine r_top (y := nI ((4 * t) + 1)) (nI_add (4 * t) 1) ?_
  refine r_iald (v := m.2.2.2.2.2.1.1 ((4 * t) + 1)) hx hb hK hw 16 rfl ((4 * t) + 1) rfl (by omega) (by decide) rfl dX5_isFlat_17 ?_
  refine lv_icmp_eq (tgt := 44) hx hb dX5_isFlat_18 (by decide) (fun c_18 => ?_) (fun c_18 => ?_)
  · refine lv_iconst (v := 1) hx hb dX5_isFlat_44 (by decide) ?_
    refine lv_goto (tgt := 49) hx hb dX5_isFlat_45 (by decide) ?_
    exact m_zret hx hb hr hlocks hK hw (Nat.le_of_ble_eq_true rfl) (Nat.le_of_ble_eq_true rfl) dX5_isFlat_49 (by rfl) (show (1 : Int32) = mdFlat m.2.2.2.2.2.1.1 t by first | rfl | (simp only [mdFlat, if_pos c_18]; first | done | rfl)) rfl
  · refine lv_aload_n hx hb dX5_isFlat_21 rfl (lv_at hl 0 rfl) ?_
    refine r_get (ci := 5) (v := .ref (a 16)) (C := RX5) (T := TX5) (N := 29) hx hb hts wiX5_isFlat_flat_X5 hown hK hw 0 rfl rfl 23 (by decide) wmX5_isFlat_flat_0 (fun _ h9 => h9) rfl dX5_isFlat_22 ?_
    refine lv_iconst (v := 4) hx hb dX5_isFlat_25 (by decide) ?_
    refine lv_iload_n hx hb dX5_isFlat_26 rfl (lv_at hl 1 rfl) ?_
    refine lv_imul hx hb dX5_isFlat_27 ?_
    refine r_top (y := nI (4 * t)) (pk_mul 4 t) ?_
    refine lv_iconst (v := 2) hx hb dX5_isFlat_28 (by decide) ?_
    refine lv_iadd hx hb dX5_isFlat_29 ?_
    refine r_top (y := nI ((4 * t) + 2)) (nI_add (4 * t) 2) ?_
    refine r_iald (v := m.2.2.2.2.2.1.1 ((4 * t) + 2)) hx hb hK hw 16 rfl ((4 * t) + 2) rfl (by omega) (by decide) rfl dX5_isFlat_30 ?_
    refine lv_aload_n hx hb dX5_isFlat_31 rfl (lv_at hl 0 rfl) ?_
    refine r_get (ci := 5) (v := .ref (a 16)) (C := RX5) (T := TX5) (N := 29) hx hb hts wiX5_isFlat_flat_X5 hown hK hw 0 rfl rfl 23 (by decide) wmX5_isFlat_flat_0 (fun _ h9 => h9) rfl dX5_isFlat_32 ?_
    refine lv_iconst (v := 4) hx hb dX5_isFlat_35 (by decide) ?_
    refine lv_iload_n hx hb dX5_isFlat_36 rfl (lv_at hl 1 rfl) ?_
    refine lv_imul hx hb dX5_isFlat_37 ?_
    refine r_top (y := nI (4 * t)) (pk_mul 4 t) ?_
    refine lv_iconst (v := 3) hx hb dX5_isFlat_38 (by decide) ?_
    refine lv_iadd hx hb dX5_isFlat_39 ?_
    refine r_top (y := nI ((4 * t) + 3)) (nI_add (4 * t) 3) ?_
    refine r_iald (v := m.2.2.2.2.2.1.1 ((4 * t) + 3)) hx hb hK hw 16 rfl ((4 * t) + 3) rfl (by omega) (by decide) rfl dX5_isFlat_40 ?_
    refine lv_icmp_ne (tgt := 48) hx hb dX5_isFlat_41 (by decide) (fun c_41 => ?_) (fun c_41 => ?_)
    · refine lv_iconst (v := 0) hx hb dX5_isFlat_48 (by decide) ?_
      exact m_zret hx hb hr hlocks hK hw (Nat.le_of_ble_eq_true rfl) (Nat.le_of_ble_eq_true rfl) dX5_isFlat_49 (by rfl) (show (0 : Int32) = mdFlat m.2.2.2.2.2.1.1 t by first | rfl | (simp only [mdFlat, if_neg c_18, if_neg c_41]; first | done | rfl)) rfl
    · refine lv_iconst (v := 1) hx hb dX5_isFlat_44 (by decide) ?_
      refine lv_goto (tgt := 49) hx hb dX5_isFlat_45 (by decide) ?_
      exact m_zret hx hb hr hlocks hK hw (Nat.le_of_ble_eq_true rfl) (Nat.le_of_ble_eq_true rfl) dX5_isFlat_49 (by rfl) (show (1 : Int32) = mdFlat m.2.2.2.2.2.1.1 t by first | rfl | (simp only [mdFlat, if_neg c_18, if_pos c_41]; first | done | rfl)) rfl

theorem wiX5_lies_mlies_X5 : ∀ w ∈ wsX50, w ∈ wsX5_lies := by decide +kernel
theorem wmX5_lies_mlies_0 : Cond.fieldLink RX5 56 "PartSketchModel" "side" "[I" ∈ wsX5_lies := by decide +kernel
set_option maxHeartbeats 4000000 in
set_option maxRecDepth 100000 in
/-- lies -/
theorem c_mlies (l : Launch) (G : gT) (a : aMd) (m : tMd) (t : Nat) (u : Nat) (ht : t ≤ 8) (hu : u ≤ 8) (sz : Nat) : MI l yX5_lies wsX5_lies ({ frames := 0, cells := 0, slots := 0, locals := 0 }) G [.ref (a 0), .int (nI t), .int (nI u)] (wMd G a m) (wMd G a m) sz (mdLies m.2.2.2.2.2.1.1 t u) 0 0 := by
  refine m_of (Qc := fun A9 => (va_Qi (fun (r9 : Int32) (_ : Unit) => r9 = (mdLies m.2.2.2.2.2.1.1 t u)) (fun _ t9 => wPost G A9 (wMd G a m) t9) A9)) (cc := cX5_lies) (maxL := 3) (ret := (some .boolean)) (by decide) rfl (Nat.le_of_ble_eq_true rfl) ?_
  intro p9 e9 s9 m9 A9 be9 mt9 c9 H locs ls hx hb hr hts hown hlocks hin hml hK hA hw hl
  have hl : lv_has ls 3 [(0, .ref (a 0)), (1, .int (nI t)), (2, .int (nI u))] := hl
  refine lv_aload_n hx hb dX5_lies_0 rfl (lv_at hl 0 rfl) ?_
  refine r_get (ci := 5) (v := .ref (a 16)) (C := RX5) (T := TX5) (N := 29) hx hb hts wiX5_lies_mlies_X5 hown hK hw 0 rfl rfl 23 (by decide) wmX5_lies_mlies_0 (fun _ h9 => h9) rfl dX5_lies_1 ?_
  refine lv_iconst (v := 4) hx hb dX5_lies_4 (by decide) ?_
  refine lv_iload_n hx hb dX5_lies_5 rfl (lv_at hl 1 rfl) ?_
  refine lv_imul hx hb dX5_lies_6 ?_
  refine r_top (y := nI (4 * t)) (pk_mul 4 t) ?_
  refine r_iald (v := m.2.2.2.2.2.1.1 (4 * t)) hx hb hK hw 16 rfl (4 * t) rfl (by omega) (by decide) rfl dX5_lies_7 ?_
  refine lv_aload_n hx hb dX5_lies_8 rfl (lv_at hl 0 rfl) ?_
  refine r_get (ci := 5) (v := .ref (a 16)) (C := RX5) (T := TX5) (N := 29) hx hb hts wiX5_lies_mlies_X5 hown hK hw 0 rfl rfl 23 (by decide) wmX5_lies_mlies_0 (fun _ h9 => h9) rfl dX5_lies_9 ?_
  refine lv_iconst (v := 4) hx hb dX5_lies_12 (by decide) ?_
  refine lv_iload_n hx hb dX5_lies_13 rfl (lv_at hl 2 rfl) ?_
  refine lv_imul hx hb dX5_lies_14 ?_
  refine r_top (y := nI (4 * u)) (pk_mul 4 u) ?_
  refine r_iald (v := m.2.2.2.2.2.1.1 (4 * u)) hx hb hK hw 16 rfl (4 * u) rfl (by omega) (by decide) rfl dX5_lies_15 ?_
  refine lv_icmp_lt (tgt := 92) hx hb dX5_lies_16 (by decide) (fun c_16 => ?_) (fun c_16 => ?_)
  · refine lv_iconst (v := 0) hx hb dX5_lies_92 (by decide) ?_
    exact m_zret hx hb hr hlocks hK hw (Nat.le_of_ble_eq_true rfl) (Nat.le_of_ble_eq_true rfl) dX5_lies_93 (by rfl) (show (0 : Int32) = mdLies m.2.2.2.2.2.1.1 t u by first | rfl | (simp only [mdLies, if_pos c_16]; first | done | rfl)) rfl
  · refine lv_aload_n hx hb dX5_lies_19 rfl (lv_at hl 0 rfl) ?_
    refine r_get (ci := 5) (v := .ref (a 16)) (C := RX5) (T := TX5) (N := 29) hx hb hts wiX5_lies_mlies_X5 hown hK hw 0 rfl rfl 23 (by decide) wmX5_lies_mlies_0 (fun _ h9 => h9) rfl dX5_lies_20 ?_
    refine lv_iconst (v := 4) hx hb dX5_lies_23 (by decide) ?_
    refine lv_iload_n hx hb dX5_lies_24 rfl (lv_at hl 1 rfl) ?_
    refine lv_imul hx hb dX5_lies_25 ?_
    refine r_top (y := nI (4 * t)) (pk_mul 4 t) ?_
    refine lv_iconst (v := 1) hx hb dX5_lies_26 (by decide) ?_
    refine lv_iadd hx hb dX5_lies_27 ?_
    refine r_top (y := nI ((4 * t) + 1)) (nI_add (4 * t) 1) ?_
    refine r_iald (v := m.2.2.2.2.2.1.1 ((4 * t) + 1)) hx hb hK hw 16 rfl ((4 * t) + 1) rfl (by omega) (by decide) rfl dX5_lies_28 ?_
    refine lv_aload_n hx hb dX5_lies_29 rfl (lv_at hl 0 rfl) ?_
    refine r_get (ci := 5) (v := .ref (a 16)) (C := RX5) (T := TX5) (N := 29) hx hb hts wiX5_lies_mlies_X5 hown hK hw 0 rfl rfl 23 (by decide) wmX5_lies_mlies_0 (fun _ h9 => h9) rfl dX5_lies_30 ?_
    refine lv_iconst (v := 4) hx hb dX5_lies_33 (by decide) ?_
    refine lv_iload_n hx hb dX5_lies_34 rfl (lv_at hl 2 rfl) ?_
    refine lv_imul hx hb dX5_lies_35 ?_
    refine r_top (y := nI (4 * u)) (pk_mul 4 u) ?_
    refine lv_iconst (v := 1) hx hb dX5_lies_36 (by decide) ?_
    refine lv_iadd hx hb dX5_lies_37 ?_
    refine r_top (y := nI ((4 * u) + 1)) (nI_add (4 * u) 1) ?_
    refine r_iald (v := m.2.2.2.2.2.1.1 ((4 * u) + 1)) hx hb hK hw 16 rfl ((4 * u) + 1) rfl (by omega) (by decide) rfl dX5_lies_38 ?_
    refine lv_icmp_gt (tgt := 92) hx hb dX5_lies_39 (by decide) (fun c_39 => ?_) (fun c_39 => ?_)
    · refine lv_iconst (v := 0) hx hb dX5_lies_92 (by decide) ?_
      exact m_zret hx hb hr hlocks hK hw (Nat.le_of_ble_eq_true rfl) (Nat.le_of_ble_eq_true rfl) dX5_lies_93 (by rfl) (show (0 : Int32) = mdLies m.2.2.2.2.2.1.1 t u by first | rfl | (simp only [mdLies, if_neg c_16, if_pos c_39]; first | done | rfl)) rfl
    · refine lv_aload_n hx hb dX5_lies_42 rfl (lv_at hl 0 rfl) ?_
      refine r_get (ci := 5) (v := .ref (a 16)) (C := RX5) (T := TX5) (N := 29) hx hb hts wiX5_lies_mlies_X5 hown hK hw 0 rfl rfl 23 (by decide) wmX5_lies_mlies_0 (fun _ h9 => h9) rfl dX5_lies_43 ?_
      refine lv_iconst (v := 4) hx hb dX5_lies_46 (by decide) ?_
      refine lv_iload_n hx hb dX5_lies_47 rfl (lv_at hl 1 rfl) ?_
      refine lv_imul hx hb dX5_lies_48 ?_
      refine r_top (y := nI (4 * t)) (pk_mul 4 t) ?_
      refine lv_iconst (v := 2) hx hb dX5_lies_49 (by decide) ?_
      refine lv_iadd hx hb dX5_lies_50 ?_
      refine r_top (y := nI ((4 * t) + 2)) (nI_add (4 * t) 2) ?_
      refine r_iald (v := m.2.2.2.2.2.1.1 ((4 * t) + 2)) hx hb hK hw 16 rfl ((4 * t) + 2) rfl (by omega) (by decide) rfl dX5_lies_51 ?_
      refine lv_aload_n hx hb dX5_lies_52 rfl (lv_at hl 0 rfl) ?_
      refine r_get (ci := 5) (v := .ref (a 16)) (C := RX5) (T := TX5) (N := 29) hx hb hts wiX5_lies_mlies_X5 hown hK hw 0 rfl rfl 23 (by decide) wmX5_lies_mlies_0 (fun _ h9 => h9) rfl dX5_lies_53 ?_
      refine lv_iconst (v := 4) hx hb dX5_lies_56 (by decide) ?_
      refine lv_iload_n hx hb dX5_lies_57 rfl (lv_at hl 2 rfl) ?_
      refine lv_imul hx hb dX5_lies_58 ?_
      refine r_top (y := nI (4 * u)) (pk_mul 4 u) ?_
      refine lv_iconst (v := 2) hx hb dX5_lies_59 (by decide) ?_
      refine lv_iadd hx hb dX5_lies_60 ?_
      refine r_top (y := nI ((4 * u) + 2)) (nI_add (4 * u) 2) ?_
      refine r_iald (v := m.2.2.2.2.2.1.1 ((4 * u) + 2)) hx hb hK hw 16 rfl ((4 * u) + 2) rfl (by omega) (by decide) rfl dX5_lies_61 ?_
      refine lv_icmp_lt (tgt := 92) hx hb dX5_lies_62 (by decide) (fun c_62 => ?_) (fun c_62 => ?_)
      · refine lv_iconst (v := 0) hx hb dX5_lies_92 (by decide) ?_
        exact m_zret hx hb hr hlocks hK hw (Nat.le_of_ble_eq_true rfl) (Nat.le_of_ble_eq_true rfl) dX5_lies_93 (by rfl) (show (0 : Int32) = mdLies m.2.2.2.2.2.1.1 t u by first | rfl | (simp only [mdLies, if_neg c_16, if_neg c_39, if_pos c_62]; first | done | rfl)) rfl
      · refine lv_aload_n hx hb dX5_lies_65 rfl (lv_at hl 0 rfl) ?_
        refine r_get (ci := 5) (v := .ref (a 16)) (C := RX5) (T := TX5) (N := 29) hx hb hts wiX5_lies_mlies_X5 hown hK hw 0 rfl rfl 23 (by decide) wmX5_lies_mlies_0 (fun _ h9 => h9) rfl dX5_lies_66 ?_
        refine lv_iconst (v := 4) hx hb dX5_lies_69 (by decide) ?_
        refine lv_iload_n hx hb dX5_lies_70 rfl (lv_at hl 1 rfl) ?_
        refine lv_imul hx hb dX5_lies_71 ?_
        refine r_top (y := nI (4 * t)) (pk_mul 4 t) ?_
        refine lv_iconst (v := 3) hx hb dX5_lies_72 (by decide) ?_
        refine lv_iadd hx hb dX5_lies_73 ?_
        refine r_top (y := nI ((4 * t) + 3)) (nI_add (4 * t) 3) ?_
        refine r_iald (v := m.2.2.2.2.2.1.1 ((4 * t) + 3)) hx hb hK hw 16 rfl ((4 * t) + 3) rfl (by omega) (by decide) rfl dX5_lies_74 ?_
        refine lv_aload_n hx hb dX5_lies_75 rfl (lv_at hl 0 rfl) ?_
        refine r_get (ci := 5) (v := .ref (a 16)) (C := RX5) (T := TX5) (N := 29) hx hb hts wiX5_lies_mlies_X5 hown hK hw 0 rfl rfl 23 (by decide) wmX5_lies_mlies_0 (fun _ h9 => h9) rfl dX5_lies_76 ?_
        refine lv_iconst (v := 4) hx hb dX5_lies_79 (by decide) ?_
        refine lv_iload_n hx hb dX5_lies_80 rfl (lv_at hl 2 rfl) ?_
        refine lv_imul hx hb dX5_lies_81 ?_
        refine r_top (y := nI (4 * u)) (pk_mul 4 u) ?_
        refine lv_iconst (v := 3) hx hb dX5_lies_82 (by decide) ?_
        refine lv_iadd hx hb dX5_lies_83 ?_
        refine r_top (y := nI ((4 * u) + 3)) (nI_add (4 * u) 3) ?_
        refine r_iald (v := m.2.2.2.2.2.1.1 ((4 * u) + 3)) hx hb hK hw 16 rfl ((4 * u) + 3) rfl (by omega) (by decide) rfl dX5_lies_84 ?_
        refine lv_icmp_gt (tgt := 92) hx hb dX5_lies_85 (by decide) (fun c_85 => ?_) (fun c_85 => ?_)
        · refine lv_iconst (v := 0) hx hb dX5_lies_92 (by decide) ?_
          exact m_zret hx hb hr hlocks hK hw (Nat.le_of_ble_eq_true rfl) (Nat.le_of_ble_eq_true rfl) dX5_lies_93 (by rfl) (show (0 : Int32) = mdLies m.2.2.2.2.2.1.1 t u by first | rfl | (simp only [mdLies, if_neg c_16, if_neg c_39, if_neg c_62, if_pos c_85]; first | done | rfl)) rfl
        · refine lv_iconst (v := 1) hx hb dX5_lies_88 (by decide) ?_
          refine lv_goto (tgt := 93) hx hb dX5_lies_89 (by decide) ?_
          exact m_zret hx hb hr hlocks hK hw (Nat.le_of_ble_eq_true rfl) (Nat.le_of_ble_eq_true rfl) dX5_lies_93 (by rfl) (show (1 : Int32) = mdLies m.2.2.2.2.2.1.1 t u by first | rfl | (simp only [mdLies, if_neg c_16, if_neg c_39, if_neg c_62, if_neg c_85]; first | done | rfl)) rfl

theorem wiX5_builds_builds_X5 : ∀ w ∈ wsX50, w ∈ wsX5_builds := by decide +kernel
theorem wmX5_builds_builds_0 : Cond.fieldLink RX5 62 "PartSketchModel" "failing" "[Z" ∈ wsX5_builds := by decide +kernel
theorem wmX5_builds_builds_1 : Cond.fieldLink RX5 134 "PartSketchModel" "pockets" "I" ∈ wsX5_builds := by decide +kernel
theorem wmX5_builds_builds_2 : Cond.fieldLink RX5 44 "PartSketchModel" "corner" "[I" ∈ wsX5_builds := by decide +kernel
theorem wmX5_builds_builds_3 : Cond.fieldLink RX5 47 "PartSketchModel" "against" "[I" ∈ wsX5_builds := by decide +kernel
theorem wmX5_builds_builds_4 : Cond.fieldLink RX5 59 "PartSketchModel" "begins" "[I" ∈ wsX5_builds := by decide +kernel
theorem wmX5_builds_builds_5 : Cond.fieldLink RX5 50 "PartSketchModel" "depth" "[I" ∈ wsX5_builds := by decide +kernel
theorem wmX5_builds_builds_6 : Cond.fieldLink RX5 141 "PartSketchModel" "height" "I" ∈ wsX5_builds := by decide +kernel
theorem wmX5_builds_builds_7 : Cond.fieldLink RX5 53 "PartSketchModel" "within" "[I" ∈ wsX5_builds := by decide +kernel
theorem wmX5_builds_builds_8 : Cond.fieldLink RX5 117 "PartSketchModel" "isBase" "Z" ∈ wsX5_builds := by decide +kernel
theorem wmX5_builds_builds_9 : Cond.fieldLink RX5 121 "PartSketchModel" "baseOne" "I" ∈ wsX5_builds := by decide +kernel
theorem wmX5_builds_builds_10 : Cond.fieldLink RX5 124 "PartSketchModel" "baseOther" "I" ∈ wsX5_builds := by decide +kernel
set_option maxHeartbeats 4000000 in
set_option maxRecDepth 100000 in
/-- builds -/
theorem c_builds (l : Launch) (G : gT) (a : aMd) (m : tMd) (hok : mdOk m.2.1) (hB : mdBok m.2.2.2.2.1) (sz : Nat) : MV l yX5_builds wsX5_builds ({ frames := 2, cells := 0, slots := 0, locals := 53 }) G [.ref (a 0)] (wMd G a m) (wMd G a (m.1, m.2.1, m.2.2.1, (mdSolve m.2.1 m.2.2.2.1), m.2.2.2.2.1, (mdBuild m.2.1 (mdSolve m.2.1 m.2.2.2.1) m.2.2.2.2.1 m.2.2.2.2.2.1), m.2.2.2.2.2.2)) sz 0 0 := by
  obtain ⟨hb1, hb2, hnk, hB4⟩ := hB
  refine m_of (Qc := fun A9 => (va_Qv (fun (_ : Unit) => True) (fun _ t9 => wPost G A9 (wMd G a (m.1, m.2.1, m.2.2.1, (mdSolve m.2.1 m.2.2.2.1), m.2.2.2.2.1, (mdBuild m.2.1 (mdSolve m.2.1 m.2.2.2.1) m.2.2.2.2.1 m.2.2.2.2.2.1), m.2.2.2.2.2.2)) t9) A9)) (cc := cX5_builds) (maxL := 3) (ret := none) (by decide) rfl (Nat.le_of_ble_eq_true rfl) ?_
  intro p9 e9 s9 m9 A9 be9 mt9 c9 H locs ls hx hb hr hts hown hlocks hin hml hK hA hw hl
  have hl : lv_has ls 3 [(0, .ref (a 0))] := hl
  refine lv_aload_n hx hb dX5_builds_0 rfl (lv_at hl 0 rfl) ?_
  have hwc : wW G A9 s9.heap (([] : va_W) ++ ((wMd G a m) ++ ([] : va_W))) H locs := hw
  refine r_callv (u := ([] : va_W)) (w := wMd G a m) (v := ([] : va_W)) (va_runV (As := []) (rest := []) ⟨hx, hb, hml, hown, hts⟩ (c_solves l G a m (by first | assumption | omega | decide) H.size) (cwV 0 hts gX5_builds_X5_solves rfl rfl rfl (by decide +kernel) ⟨Nat.le_of_ble_eq_true rfl, Nat.le_of_ble_eq_true rfl⟩) (r_preV (ci := 5) (q0 := 0) hK hwc rfl rfl rfl) rfl rfl hl.1 rfl (lv_room (Nat.le_of_ble_eq_true rfl)) dX5_builds_1 ⟨Nat.le_of_ble_eq_true rfl, Nat.le_of_ble_eq_true rfl⟩) hwc hA rfl rfl (fun H locs hw => ?_)
  have hw : wW G A9 s9.heap (wMd G a (m.1, m.2.1, m.2.2.1, (mdSolve m.2.1 m.2.2.2.1), m.2.2.2.2.1, m.2.2.2.2.2.1, m.2.2.2.2.2.2)) H locs := hw
  have join_25 : ∀ (sv : Nat → Int32) (hsv : sv = mdSd0 m.2.1 (mdSolve m.2.1 m.2.2.2.1) m.2.2.2.2.1 m.2.2.2.2.2.1.1) (H : Heap) (locs : List Loc) (ls : Array Slot), wW G A9 s9.heap (wMd G a (m.1, m.2.1, m.2.2.1, (mdSolve m.2.1 m.2.2.2.1), m.2.2.2.2.1, (sv, m.2.2.2.2.2.1.2.1, m.2.2.2.2.2.1.2.2), m.2.2.2.2.2.2)) H locs → lv_has ls 3 [(0, .ref (a 0))] → W p9 l e9 ({ frames := 2, cells := 0, slots := 0, locals := 53 }) s9 m9 [.ref (a 0)].toArray be9 mt9 c9 H locs 0 0 (MQ be9 (va_Qv (fun (_ : Unit) => True) (fun _ t9 => wPost G A9 (wMd G a (m.1, m.2.1, m.2.2.1, (mdSolve m.2.1 m.2.2.2.1), m.2.2.2.2.1, (mdBuild m.2.1 (mdSolve m.2.1 m.2.2.2.1) m.2.2.2.2.1 m.2.2.2.2.2.1), m.2.2.2.2.2.2)) t9) A9) [.ref (a 0)].toArray s9 0 0 A9) (F0 m9 25 ls []) := by
    intro sv hsv H locs ls hw hl
    refine lv_aload_n hx hb dX5_builds_25 rfl (lv_at hl 0 rfl) ?_
    refine r_get (ci := 5) (v := .ref (a 18)) (C := RX5) (T := TX5) (N := 29) hx hb hts wiX5_builds_builds_X5 hown hK hw 0 rfl rfl 25 (by decide) wmX5_builds_builds_0 (fun _ h9 => h9) rfl dX5_builds_26 ?_
    refine lv_bipush (v := 8) hx hb dX5_builds_29 (by decide) ?_
    have join_52 : ∀ (v : Int32) (hv : v = mdFl8 m.2.2.2.2.1 sv) (hv01 : v = 0 ∨ v = 1) (H : Heap) (locs : List Loc) (ls : Array Slot), wW G A9 s9.heap (wMd G a (m.1, m.2.1, m.2.2.1, (mdSolve m.2.1 m.2.2.2.1), m.2.2.2.2.1, (sv, m.2.2.2.2.2.1.2.1, m.2.2.2.2.2.1.2.2), m.2.2.2.2.2.2)) H locs → lv_has ls 3 [(0, .ref (a 0))] → W p9 l e9 ({ frames := 2, cells := 0, slots := 0, locals := 53 }) s9 m9 [.ref (a 0)].toArray be9 mt9 c9 H locs 0 0 (MQ be9 (va_Qv (fun (_ : Unit) => True) (fun _ t9 => wPost G A9 (wMd G a (m.1, m.2.1, m.2.2.1, (mdSolve m.2.1 m.2.2.2.1), m.2.2.2.2.1, (mdBuild m.2.1 (mdSolve m.2.1 m.2.2.2.1) m.2.2.2.2.1 m.2.2.2.2.2.1), m.2.2.2.2.2.2)) t9) A9) [.ref (a 0)].toArray s9 0 0 A9) (F0 m9 52 ls [.int v, .int 8, .ref (a 18)]) := by
      intro v hv hv01 H locs ls hw hl
      refine r_zast hx hb hK hw 18 rfl 8 rfl (by omega) (by decide) (zb_vp hv01) dX5_builds_52 (ws' := wMd G a (m.1, m.2.1, m.2.2.1, (mdSolve m.2.1 m.2.2.2.1), m.2.2.2.2.1, (sv, m.2.2.2.2.2.1.2.1, (upd m.2.2.2.2.2.1.2.2 8 v)), m.2.2.2.2.2.2)) rfl (fun H locs hw => ?_)
      refine lv_iconst (v := 0) hx hb dX5_builds_53 (by decide) ?_
      refine lv_istore_n (lv' := [(1, .int 0), (0, .ref (a 0))]) hx hb dX5_builds_54 rfl hl (by decide) rfl (fun ls hl => ?_)
      have loop_55 : ∀ (nf : Nat) (k : Nat) (hnf : (m.2.2.2.2.1.2.2.2.2.1 - k) < nf) (hk : k ≤ m.2.2.2.2.1.2.2.2.2.1), ∀ (H : Heap) (locs : List Loc) (ls : Array Slot), wW G A9 s9.heap (wMd G a (m.1, m.2.1, m.2.2.1, (mdSolve m.2.1 m.2.2.2.1), m.2.2.2.2.1, (mdBuildK m.2.1 (mdSolve m.2.1 m.2.2.2.1) m.2.2.2.2.1 (mdSd0 m.2.1 (mdSolve m.2.1 m.2.2.2.1) m.2.2.2.2.1 m.2.2.2.2.2.1.1, m.2.2.2.2.2.1.2.1, upd m.2.2.2.2.2.1.2.2 8 (mdFl8 m.2.2.2.2.1 (mdSd0 m.2.1 (mdSolve m.2.1 m.2.2.2.1) m.2.2.2.2.1 m.2.2.2.2.2.1.1))) k), m.2.2.2.2.2.2)) H locs → lv_has ls 3 [(0, .ref (a 0)), (1, .int (nI k))] → W p9 l e9 ({ frames := 2, cells := 0, slots := 0, locals := 53 }) s9 m9 [.ref (a 0)].toArray be9 mt9 c9 H locs 0 0 (MQ be9 (va_Qv (fun (_ : Unit) => True) (fun _ t9 => wPost G A9 (wMd G a (m.1, m.2.1, m.2.2.1, (mdSolve m.2.1 m.2.2.2.1), m.2.2.2.2.1, (mdBuild m.2.1 (mdSolve m.2.1 m.2.2.2.1) m.2.2.2.2.1 m.2.2.2.2.2.1), m.2.2.2.2.2.2)) t9) A9) [.ref (a 0)].toArray s9 0 0 A9) (F0 m9 55 ls []) := by
        intro nf
        induction nf with
        | zero => intro k hnf hk; exact absurd hnf (Nat.not_lt_zero _)
        | succ nf ih_55 =>
          intro k hnf hk H locs ls hw hl
          refine lv_iload_n hx hb dX5_builds_55 rfl (lv_at hl 1 rfl) ?_
          refine lv_aload_n hx hb dX5_builds_56 rfl (lv_at hl 0 rfl) ?_
          refine r_get (ci := 5) (v := .int (nI m.2.2.2.2.1.2.2.2.2.1)) (C := RX5) (T := TX5) (N := 29) hx hb hts wiX5_builds_builds_X5 hown hK hw 0 rfl rfl 18 (by decide) wmX5_builds_builds_1 (fun _ h9 => h9) rfl dX5_builds_57 ?_
          refine lv_icmp_ge (tgt := 194) hx hb dX5_builds_60 (by decide) (fun c_60 => ?_) (fun c_60 => ?_)
          · have hx_60 : m.2.2.2.2.1.2.2.2.2.1 ≤ k := ct_ge (k := k) (n := m.2.2.2.2.1.2.2.2.2.1) (by omega) (by omega) c_60
            exact m_vret hx hb hr hlocks hK hw (Nat.le_of_ble_eq_true rfl) (Nat.le_of_ble_eq_true rfl) dX5_builds_194 (show wMd G a (m.1, m.2.1, m.2.2.1, (mdSolve m.2.1 m.2.2.2.1), m.2.2.2.2.1, (mdBuildK m.2.1 (mdSolve m.2.1 m.2.2.2.1) m.2.2.2.2.1 (mdSd0 m.2.1 (mdSolve m.2.1 m.2.2.2.1) m.2.2.2.2.1 m.2.2.2.2.2.1.1, m.2.2.2.2.2.1.2.1, upd m.2.2.2.2.2.1.2.2 8 (mdFl8 m.2.2.2.2.1 (mdSd0 m.2.1 (mdSolve m.2.1 m.2.2.2.1) m.2.2.2.2.1 m.2.2.2.2.2.1.1))) k), m.2.2.2.2.2.2) = wMd G a (m.1, m.2.1, m.2.2.1, (mdSolve m.2.1 m.2.2.2.1), m.2.2.2.2.1, (mdBuild m.2.1 (mdSolve m.2.1 m.2.2.2.1) m.2.2.2.2.1 m.2.2.2.2.2.1), m.2.2.2.2.2.2) by rw [show k = m.2.2.2.2.1.2.2.2.2.1 by omega]; rfl)
          · have hc_60 : k < m.2.2.2.2.1.2.2.2.2.1 := ct_nge (k := k) (n := m.2.2.2.2.1.2.2.2.2.1) (by omega) (by omega) c_60
            obtain ⟨hco, hag, hwi⟩ := hB4 k hc_60
            have join_84 : ∀ (q : Nat) (hq : q = mdInn m.2.2.2.2.1 k) (hq8 : q = 8 ∨ q < k) (H : Heap) (locs : List Loc) (ls : Array Slot), wW G A9 s9.heap (wMd G a (m.1, m.2.1, m.2.2.1, (mdSolve m.2.1 m.2.2.2.1), m.2.2.2.2.1, (mdBuildK m.2.1 (mdSolve m.2.1 m.2.2.2.1) m.2.2.2.2.1 (mdSd0 m.2.1 (mdSolve m.2.1 m.2.2.2.1) m.2.2.2.2.1 m.2.2.2.2.2.1.1, m.2.2.2.2.2.1.2.1, upd m.2.2.2.2.2.1.2.2 8 (mdFl8 m.2.2.2.2.1 (mdSd0 m.2.1 (mdSolve m.2.1 m.2.2.2.1) m.2.2.2.2.1 m.2.2.2.2.2.1.1))) k), m.2.2.2.2.2.2)) H locs → lv_has ls 3 [(0, .ref (a 0)), (1, .int (nI k))] → W p9 l e9 ({ frames := 2, cells := 0, slots := 0, locals := 53 }) s9 m9 [.ref (a 0)].toArray be9 mt9 c9 H locs 0 0 (MQ be9 (va_Qv (fun (_ : Unit) => True) (fun _ t9 => wPost G A9 (wMd G a (m.1, m.2.1, m.2.2.1, (mdSolve m.2.1 m.2.2.2.1), m.2.2.2.2.1, (mdBuild m.2.1 (mdSolve m.2.1 m.2.2.2.1) m.2.2.2.2.1 m.2.2.2.2.2.1), m.2.2.2.2.2.2)) t9) A9) [.ref (a 0)].toArray s9 0 0 A9) (F0 m9 84 ls [.int (nI q)]) := by
              intro q hq hq8 H locs ls hw hl
              refine lv_istore_n (lv' := [(2, .int (nI q)), (0, .ref (a 0)), (1, .int (nI k))]) hx hb dX5_builds_84 rfl hl (by decide) rfl (fun ls hl => ?_)
              refine lv_aload_n hx hb dX5_builds_85 rfl (lv_at hl 1 rfl) ?_
              refine lv_iload_n hx hb dX5_builds_86 rfl (lv_at hl 2 rfl) ?_
              refine lv_aload_n hx hb dX5_builds_87 rfl (lv_at hl 1 rfl) ?_
              refine r_get (ci := 5) (v := .ref (a 12)) (C := RX5) (T := TX5) (N := 29) hx hb hts wiX5_builds_builds_X5 hown hK hw 0 rfl rfl 19 (by decide) wmX5_builds_builds_2 (fun _ h9 => h9) rfl dX5_builds_88 ?_
              refine lv_iload_n hx hb dX5_builds_91 rfl (lv_at hl 2 rfl) ?_
              refine r_iald (v := nI (m.2.2.2.2.1.2.2.2.2.2.1 k)) hx hb hK hw 12 rfl k rfl (by omega) (by decide) rfl dX5_builds_92 ?_
              refine lv_aload_n hx hb dX5_builds_93 rfl (lv_at hl 1 rfl) ?_
              refine r_get (ci := 5) (v := .ref (a 13)) (C := RX5) (T := TX5) (N := 29) hx hb hts wiX5_builds_builds_X5 hown hK hw 0 rfl rfl 20 (by decide) wmX5_builds_builds_3 (fun _ h9 => h9) rfl dX5_builds_94 ?_
              refine lv_iload_n hx hb dX5_builds_97 rfl (lv_at hl 2 rfl) ?_
              refine r_iald (v := nI (m.2.2.2.2.1.2.2.2.2.2.2.1 k)) hx hb hK hw 13 rfl k rfl (by omega) (by decide) rfl dX5_builds_98 ?_
              have hwc : wW G A9 s9.heap (([] : va_W) ++ ((wMd G a (m.1, m.2.1, m.2.2.1, (mdSolve m.2.1 m.2.2.2.1), m.2.2.2.2.1, (mdBuildK m.2.1 (mdSolve m.2.1 m.2.2.2.1) m.2.2.2.2.1 (mdSd0 m.2.1 (mdSolve m.2.1 m.2.2.2.1) m.2.2.2.2.1 m.2.2.2.2.2.1.1, m.2.2.2.2.2.1.2.1, upd m.2.2.2.2.2.1.2.2 8 (mdFl8 m.2.2.2.2.1 (mdSd0 m.2.1 (mdSolve m.2.1 m.2.2.2.1) m.2.2.2.2.1 m.2.2.2.2.2.1.1))) k), m.2.2.2.2.2.2)) ++ ([] : va_W))) H locs := hw
              refine r_callv (u := ([] : va_W)) (w := wMd G a (m.1, m.2.1, m.2.2.1, (mdSolve m.2.1 m.2.2.2.1), m.2.2.2.2.1, (mdBuildK m.2.1 (mdSolve m.2.1 m.2.2.2.1) m.2.2.2.2.1 (mdSd0 m.2.1 (mdSolve m.2.1 m.2.2.2.1) m.2.2.2.2.1 m.2.2.2.2.2.1.1, m.2.2.2.2.2.1.2.1, upd m.2.2.2.2.2.1.2.2 8 (mdFl8 m.2.2.2.2.1 (mdSd0 m.2.1 (mdSolve m.2.1 m.2.2.2.1) m.2.2.2.2.1 m.2.2.2.2.2.1.1))) k), m.2.2.2.2.2.2)) (v := ([] : va_W)) (va_runV (As := [.int (nI k), .int (nI (m.2.2.2.2.1.2.2.2.2.2.1 k)), .int (nI (m.2.2.2.2.1.2.2.2.2.2.2.1 k))]) (rest := []) ⟨hx, hb, hml, hown, hts⟩ (c_sides l G a (m.1, m.2.1, m.2.2.1, (mdSolve m.2.1 m.2.2.2.1), m.2.2.2.2.1, (mdBuildK m.2.1 (mdSolve m.2.1 m.2.2.2.1) m.2.2.2.2.1 (mdSd0 m.2.1 (mdSolve m.2.1 m.2.2.2.1) m.2.2.2.2.1 m.2.2.2.2.2.1.1, m.2.2.2.2.2.1.2.1, upd m.2.2.2.2.2.1.2.2 8 (mdFl8 m.2.2.2.2.1 (mdSd0 m.2.1 (mdSolve m.2.1 m.2.2.2.1) m.2.2.2.2.1 m.2.2.2.2.2.1.1))) k), m.2.2.2.2.2.2) k (m.2.2.2.2.1.2.2.2.2.2.1 k) (m.2.2.2.2.1.2.2.2.2.2.2.1 k) (by first | assumption | omega | decide) (by first | assumption | omega | decide) (by first | assumption | omega | decide) H.size) (cwV 3 hts gX5_builds_X5_sides rfl rfl rfl (by decide +kernel) ⟨Nat.le_of_ble_eq_true rfl, Nat.le_of_ble_eq_true rfl⟩) (r_preV (ci := 5) (q0 := 0) hK hwc rfl rfl rfl) rfl rfl hl.1 rfl (lv_room (Nat.le_of_ble_eq_true rfl)) dX5_builds_99 ⟨Nat.le_of_ble_eq_true rfl, Nat.le_of_ble_eq_true rfl⟩) hwc hA rfl rfl (fun H locs hw => ?_)
              have hw : wW G A9 s9.heap (wMd G a (m.1, m.2.1, m.2.2.1, (mdSolve m.2.1 m.2.2.2.1), m.2.2.2.2.1, ((mdSidesP m.2.1 (mdSolve m.2.1 m.2.2.2.1) (mdBuildK m.2.1 (mdSolve m.2.1 m.2.2.2.1) m.2.2.2.2.1 (mdSd0 m.2.1 (mdSolve m.2.1 m.2.2.2.1) m.2.2.2.2.1 m.2.2.2.2.2.1.1, m.2.2.2.2.2.1.2.1, upd m.2.2.2.2.2.1.2.2 8 (mdFl8 m.2.2.2.2.1 (mdSd0 m.2.1 (mdSolve m.2.1 m.2.2.2.1) m.2.2.2.2.1 m.2.2.2.2.2.1.1))) k).1 k (m.2.2.2.2.1.2.2.2.2.2.1 k) (m.2.2.2.2.1.2.2.2.2.2.2.1 k)), (mdBuildK m.2.1 (mdSolve m.2.1 m.2.2.2.1) m.2.2.2.2.1 (mdSd0 m.2.1 (mdSolve m.2.1 m.2.2.2.1) m.2.2.2.2.1 m.2.2.2.2.2.1.1, m.2.2.2.2.2.1.2.1, upd m.2.2.2.2.2.1.2.2 8 (mdFl8 m.2.2.2.2.1 (mdSd0 m.2.1 (mdSolve m.2.1 m.2.2.2.1) m.2.2.2.2.1 m.2.2.2.2.2.1.1))) k).2.1, (mdBuildK m.2.1 (mdSolve m.2.1 m.2.2.2.1) m.2.2.2.2.1 (mdSd0 m.2.1 (mdSolve m.2.1 m.2.2.2.1) m.2.2.2.2.1 m.2.2.2.2.2.1.1, m.2.2.2.2.2.1.2.1, upd m.2.2.2.2.2.1.2.2 8 (mdFl8 m.2.2.2.2.1 (mdSd0 m.2.1 (mdSolve m.2.1 m.2.2.2.1) m.2.2.2.2.1 m.2.2.2.2.2.1.1))) k).2.2), m.2.2.2.2.2.2)) H locs := hw
              refine lv_aload_n hx hb dX5_builds_102 rfl (lv_at hl 1 rfl) ?_
              refine r_get (ci := 5) (v := .ref (a 17)) (C := RX5) (T := TX5) (N := 29) hx hb hts wiX5_builds_builds_X5 hown hK hw 0 rfl rfl 24 (by decide) wmX5_builds_builds_4 (fun _ h9 => h9) rfl dX5_builds_103 ?_
              refine lv_iload_n hx hb dX5_builds_106 rfl (lv_at hl 2 rfl) ?_
              have join_130 : ∀ (z : Int32) (hz : z = mdBg m.2.2.2.2.1 (mdBuildK m.2.1 (mdSolve m.2.1 m.2.2.2.1) m.2.2.2.2.1 (mdSd0 m.2.1 (mdSolve m.2.1 m.2.2.2.1) m.2.2.2.2.1 m.2.2.2.2.2.1.1, m.2.2.2.2.2.1.2.1, upd m.2.2.2.2.2.1.2.2 8 (mdFl8 m.2.2.2.2.1 (mdSd0 m.2.1 (mdSolve m.2.1 m.2.2.2.1) m.2.2.2.2.1 m.2.2.2.2.2.1.1))) k).2.1 k) (H : Heap) (locs : List Loc) (ls : Array Slot), wW G A9 s9.heap (wMd G a (m.1, m.2.1, m.2.2.1, (mdSolve m.2.1 m.2.2.2.1), m.2.2.2.2.1, ((mdSidesP m.2.1 (mdSolve m.2.1 m.2.2.2.1) (mdBuildK m.2.1 (mdSolve m.2.1 m.2.2.2.1) m.2.2.2.2.1 (mdSd0 m.2.1 (mdSolve m.2.1 m.2.2.2.1) m.2.2.2.2.1 m.2.2.2.2.2.1.1, m.2.2.2.2.2.1.2.1, upd m.2.2.2.2.2.1.2.2 8 (mdFl8 m.2.2.2.2.1 (mdSd0 m.2.1 (mdSolve m.2.1 m.2.2.2.1) m.2.2.2.2.1 m.2.2.2.2.2.1.1))) k).1 k (m.2.2.2.2.1.2.2.2.2.2.1 k) (m.2.2.2.2.1.2.2.2.2.2.2.1 k)), (mdBuildK m.2.1 (mdSolve m.2.1 m.2.2.2.1) m.2.2.2.2.1 (mdSd0 m.2.1 (mdSolve m.2.1 m.2.2.2.1) m.2.2.2.2.1 m.2.2.2.2.2.1.1, m.2.2.2.2.2.1.2.1, upd m.2.2.2.2.2.1.2.2 8 (mdFl8 m.2.2.2.2.1 (mdSd0 m.2.1 (mdSolve m.2.1 m.2.2.2.1) m.2.2.2.2.1 m.2.2.2.2.2.1.1))) k).2.1, (mdBuildK m.2.1 (mdSolve m.2.1 m.2.2.2.1) m.2.2.2.2.1 (mdSd0 m.2.1 (mdSolve m.2.1 m.2.2.2.1) m.2.2.2.2.1 m.2.2.2.2.2.1.1, m.2.2.2.2.2.1.2.1, upd m.2.2.2.2.2.1.2.2 8 (mdFl8 m.2.2.2.2.1 (mdSd0 m.2.1 (mdSolve m.2.1 m.2.2.2.1) m.2.2.2.2.1 m.2.2.2.2.2.1.1))) k).2.2), m.2.2.2.2.2.2)) H locs → lv_has ls 3 [(0, .ref (a 0)), (1, .int (nI k)), (2, .int (nI q))] → W p9 l e9 ({ frames := 2, cells := 0, slots := 0, locals := 53 }) s9 m9 [.ref (a 0)].toArray be9 mt9 c9 H locs 0 0 (MQ be9 (va_Qv (fun (_ : Unit) => True) (fun _ t9 => wPost G A9 (wMd G a (m.1, m.2.1, m.2.2.1, (mdSolve m.2.1 m.2.2.2.1), m.2.2.2.2.1, (mdBuild m.2.1 (mdSolve m.2.1 m.2.2.2.1) m.2.2.2.2.1 m.2.2.2.2.2.1), m.2.2.2.2.2.2)) t9) A9) [.ref (a 0)].toArray s9 0 0 A9) (F0 m9 130 ls [.int z, .int (nI k), .ref (a 17)]) := by
                intro z hz H locs ls hw hl
                refine r_iast hx hb hK hw 17 rfl k rfl (by omega) (by decide) dX5_builds_130 (ws' := wMd G a (m.1, m.2.1, m.2.2.1, (mdSolve m.2.1 m.2.2.2.1), m.2.2.2.2.1, ((mdSidesP m.2.1 (mdSolve m.2.1 m.2.2.2.1) (mdBuildK m.2.1 (mdSolve m.2.1 m.2.2.2.1) m.2.2.2.2.1 (mdSd0 m.2.1 (mdSolve m.2.1 m.2.2.2.1) m.2.2.2.2.1 m.2.2.2.2.2.1.1, m.2.2.2.2.2.1.2.1, upd m.2.2.2.2.2.1.2.2 8 (mdFl8 m.2.2.2.2.1 (mdSd0 m.2.1 (mdSolve m.2.1 m.2.2.2.1) m.2.2.2.2.1 m.2.2.2.2.2.1.1))) k).1 k (m.2.2.2.2.1.2.2.2.2.2.1 k) (m.2.2.2.2.1.2.2.2.2.2.2.1 k)), (upd ((mdBuildK m.2.1 (mdSolve m.2.1 m.2.2.2.1) m.2.2.2.2.1 (mdSd0 m.2.1 (mdSolve m.2.1 m.2.2.2.1) m.2.2.2.2.1 m.2.2.2.2.2.1.1, m.2.2.2.2.2.1.2.1, upd m.2.2.2.2.2.1.2.2 8 (mdFl8 m.2.2.2.2.1 (mdSd0 m.2.1 (mdSolve m.2.1 m.2.2.2.1) m.2.2.2.2.1 m.2.2.2.2.2.1.1))) k).2.1) k z), (mdBuildK m.2.1 (mdSolve m.2.1 m.2.2.2.1) m.2.2.2.2.1 (mdSd0 m.2.1 (mdSolve m.2.1 m.2.2.2.1) m.2.2.2.2.1 m.2.2.2.2.2.1.1, m.2.2.2.2.2.1.2.1, upd m.2.2.2.2.2.1.2.2 8 (mdFl8 m.2.2.2.2.1 (mdSd0 m.2.1 (mdSolve m.2.1 m.2.2.2.1) m.2.2.2.2.1 m.2.2.2.2.2.1.1))) k).2.2), m.2.2.2.2.2.2)) rfl (fun H locs hw => ?_)
                refine lv_aload_n hx hb dX5_builds_131 rfl (lv_at hl 0 rfl) ?_
                refine r_get (ci := 5) (v := .ref (a 18)) (C := RX5) (T := TX5) (N := 29) hx hb hts wiX5_builds_builds_X5 hown hK hw 0 rfl rfl 25 (by decide) wmX5_builds_builds_0 (fun _ h9 => h9) rfl dX5_builds_132 ?_
                refine lv_iload_n hx hb dX5_builds_135 rfl (lv_at hl 1 rfl) ?_
                have join_187 : ∀ (y : Int32) (hy : y = mdFl m.2.2.2.2.1 (mdSidesP m.2.1 (mdSolve m.2.1 m.2.2.2.1) (mdBuildK m.2.1 (mdSolve m.2.1 m.2.2.2.1) m.2.2.2.2.1 (mdSd0 m.2.1 (mdSolve m.2.1 m.2.2.2.1) m.2.2.2.2.1 m.2.2.2.2.2.1.1, m.2.2.2.2.2.1.2.1, upd m.2.2.2.2.2.1.2.2 8 (mdFl8 m.2.2.2.2.1 (mdSd0 m.2.1 (mdSolve m.2.1 m.2.2.2.1) m.2.2.2.2.1 m.2.2.2.2.2.1.1))) k).1 k (m.2.2.2.2.1.2.2.2.2.2.1 k) (m.2.2.2.2.1.2.2.2.2.2.2.1 k)) (mdBuildK m.2.1 (mdSolve m.2.1 m.2.2.2.1) m.2.2.2.2.1 (mdSd0 m.2.1 (mdSolve m.2.1 m.2.2.2.1) m.2.2.2.2.1 m.2.2.2.2.2.1.1, m.2.2.2.2.2.1.2.1, upd m.2.2.2.2.2.1.2.2 8 (mdFl8 m.2.2.2.2.1 (mdSd0 m.2.1 (mdSolve m.2.1 m.2.2.2.1) m.2.2.2.2.1 m.2.2.2.2.2.1.1))) k).2.2 z k) (hy01 : y = 0 ∨ y = 1) (H : Heap) (locs : List Loc) (ls : Array Slot), wW G A9 s9.heap (wMd G a (m.1, m.2.1, m.2.2.1, (mdSolve m.2.1 m.2.2.2.1), m.2.2.2.2.1, ((mdSidesP m.2.1 (mdSolve m.2.1 m.2.2.2.1) (mdBuildK m.2.1 (mdSolve m.2.1 m.2.2.2.1) m.2.2.2.2.1 (mdSd0 m.2.1 (mdSolve m.2.1 m.2.2.2.1) m.2.2.2.2.1 m.2.2.2.2.2.1.1, m.2.2.2.2.2.1.2.1, upd m.2.2.2.2.2.1.2.2 8 (mdFl8 m.2.2.2.2.1 (mdSd0 m.2.1 (mdSolve m.2.1 m.2.2.2.1) m.2.2.2.2.1 m.2.2.2.2.2.1.1))) k).1 k (m.2.2.2.2.1.2.2.2.2.2.1 k) (m.2.2.2.2.1.2.2.2.2.2.2.1 k)), (upd ((mdBuildK m.2.1 (mdSolve m.2.1 m.2.2.2.1) m.2.2.2.2.1 (mdSd0 m.2.1 (mdSolve m.2.1 m.2.2.2.1) m.2.2.2.2.1 m.2.2.2.2.2.1.1, m.2.2.2.2.2.1.2.1, upd m.2.2.2.2.2.1.2.2 8 (mdFl8 m.2.2.2.2.1 (mdSd0 m.2.1 (mdSolve m.2.1 m.2.2.2.1) m.2.2.2.2.1 m.2.2.2.2.2.1.1))) k).2.1) k z), (mdBuildK m.2.1 (mdSolve m.2.1 m.2.2.2.1) m.2.2.2.2.1 (mdSd0 m.2.1 (mdSolve m.2.1 m.2.2.2.1) m.2.2.2.2.1 m.2.2.2.2.2.1.1, m.2.2.2.2.2.1.2.1, upd m.2.2.2.2.2.1.2.2 8 (mdFl8 m.2.2.2.2.1 (mdSd0 m.2.1 (mdSolve m.2.1 m.2.2.2.1) m.2.2.2.2.1 m.2.2.2.2.2.1.1))) k).2.2), m.2.2.2.2.2.2)) H locs → lv_has ls 3 [(0, .ref (a 0)), (1, .int (nI k)), (2, .int (nI q))] → W p9 l e9 ({ frames := 2, cells := 0, slots := 0, locals := 53 }) s9 m9 [.ref (a 0)].toArray be9 mt9 c9 H locs 0 0 (MQ be9 (va_Qv (fun (_ : Unit) => True) (fun _ t9 => wPost G A9 (wMd G a (m.1, m.2.1, m.2.2.1, (mdSolve m.2.1 m.2.2.2.1), m.2.2.2.2.1, (mdBuild m.2.1 (mdSolve m.2.1 m.2.2.2.1) m.2.2.2.2.1 m.2.2.2.2.2.1), m.2.2.2.2.2.2)) t9) A9) [.ref (a 0)].toArray s9 0 0 A9) (F0 m9 187 ls [.int y, .int (nI k), .ref (a 18)]) := by
                  intro y hy hy01 H locs ls hw hl
                  refine r_zast hx hb hK hw 18 rfl k rfl (by omega) (by decide) (zb_vp hy01) dX5_builds_187 (ws' := wMd G a (m.1, m.2.1, m.2.2.1, (mdSolve m.2.1 m.2.2.2.1), m.2.2.2.2.1, ((mdSidesP m.2.1 (mdSolve m.2.1 m.2.2.2.1) (mdBuildK m.2.1 (mdSolve m.2.1 m.2.2.2.1) m.2.2.2.2.1 (mdSd0 m.2.1 (mdSolve m.2.1 m.2.2.2.1) m.2.2.2.2.1 m.2.2.2.2.2.1.1, m.2.2.2.2.2.1.2.1, upd m.2.2.2.2.2.1.2.2 8 (mdFl8 m.2.2.2.2.1 (mdSd0 m.2.1 (mdSolve m.2.1 m.2.2.2.1) m.2.2.2.2.1 m.2.2.2.2.2.1.1))) k).1 k (m.2.2.2.2.1.2.2.2.2.2.1 k) (m.2.2.2.2.1.2.2.2.2.2.2.1 k)), (upd ((mdBuildK m.2.1 (mdSolve m.2.1 m.2.2.2.1) m.2.2.2.2.1 (mdSd0 m.2.1 (mdSolve m.2.1 m.2.2.2.1) m.2.2.2.2.1 m.2.2.2.2.2.1.1, m.2.2.2.2.2.1.2.1, upd m.2.2.2.2.2.1.2.2 8 (mdFl8 m.2.2.2.2.1 (mdSd0 m.2.1 (mdSolve m.2.1 m.2.2.2.1) m.2.2.2.2.1 m.2.2.2.2.2.1.1))) k).2.1) k z), (upd ((mdBuildK m.2.1 (mdSolve m.2.1 m.2.2.2.1) m.2.2.2.2.1 (mdSd0 m.2.1 (mdSolve m.2.1 m.2.2.2.1) m.2.2.2.2.1 m.2.2.2.2.2.1.1, m.2.2.2.2.2.1.2.1, upd m.2.2.2.2.2.1.2.2 8 (mdFl8 m.2.2.2.2.1 (mdSd0 m.2.1 (mdSolve m.2.1 m.2.2.2.1) m.2.2.2.2.1 m.2.2.2.2.2.1.1))) k).2.2) k y)), m.2.2.2.2.2.2)) rfl (fun H locs hw => ?_)
                  refine lv_iinc (v := nI (k + 1)) (lv' := [(1, .int (nI (k + 1))), (0, .ref (a 0)), (2, .int (nI q))]) hx hb dX5_builds_188 hl (k := 1) rfl (nI_add k 1) (by decide) rfl (fun ls hl => ?_)
                  refine lv_goto (tgt := 55) hx hb dX5_builds_191 (by decide) ?_
                  exact ih_55 (k + 1) (by omega) (by first | assumption | omega | rfl) _ _ _ (wW.eq (show wMd G a (m.1, m.2.1, m.2.2.1, (mdSolve m.2.1 m.2.2.2.1), m.2.2.2.2.1, ((mdSidesP m.2.1 (mdSolve m.2.1 m.2.2.2.1) (mdBuildK m.2.1 (mdSolve m.2.1 m.2.2.2.1) m.2.2.2.2.1 (mdSd0 m.2.1 (mdSolve m.2.1 m.2.2.2.1) m.2.2.2.2.1 m.2.2.2.2.2.1.1, m.2.2.2.2.2.1.2.1, upd m.2.2.2.2.2.1.2.2 8 (mdFl8 m.2.2.2.2.1 (mdSd0 m.2.1 (mdSolve m.2.1 m.2.2.2.1) m.2.2.2.2.1 m.2.2.2.2.2.1.1))) k).1 k (m.2.2.2.2.1.2.2.2.2.2.1 k) (m.2.2.2.2.1.2.2.2.2.2.2.1 k)), (upd ((mdBuildK m.2.1 (mdSolve m.2.1 m.2.2.2.1) m.2.2.2.2.1 (mdSd0 m.2.1 (mdSolve m.2.1 m.2.2.2.1) m.2.2.2.2.1 m.2.2.2.2.2.1.1, m.2.2.2.2.2.1.2.1, upd m.2.2.2.2.2.1.2.2 8 (mdFl8 m.2.2.2.2.1 (mdSd0 m.2.1 (mdSolve m.2.1 m.2.2.2.1) m.2.2.2.2.1 m.2.2.2.2.2.1.1))) k).2.1) k z), (upd ((mdBuildK m.2.1 (mdSolve m.2.1 m.2.2.2.1) m.2.2.2.2.1 (mdSd0 m.2.1 (mdSolve m.2.1 m.2.2.2.1) m.2.2.2.2.1 m.2.2.2.2.2.1.1, m.2.2.2.2.2.1.2.1, upd m.2.2.2.2.2.1.2.2 8 (mdFl8 m.2.2.2.2.1 (mdSd0 m.2.1 (mdSolve m.2.1 m.2.2.2.1) m.2.2.2.2.1 m.2.2.2.2.2.1.1))) k).2.2) k y)), m.2.2.2.2.2.2) = wMd G a (m.1, m.2.1, m.2.2.1, (mdSolve m.2.1 m.2.2.2.1), m.2.2.2.2.1, (mdBuildK m.2.1 (mdSolve m.2.1 m.2.2.2.1) m.2.2.2.2.1 (mdSd0 m.2.1 (mdSolve m.2.1 m.2.2.2.1) m.2.2.2.2.1 m.2.2.2.2.2.1.1, m.2.2.2.2.2.1.2.1, upd m.2.2.2.2.2.1.2.2 8 (mdFl8 m.2.2.2.2.1 (mdSd0 m.2.1 (mdSolve m.2.1 m.2.2.2.1) m.2.2.2.2.1 m.2.2.2.2.2.1.1))) (k + 1)), m.2.2.2.2.2.2) from (by subst hy; subst hz; rfl)) hw) (lv_sub hl [1, 0] rfl)
                refine lv_aload_n hx hb dX5_builds_136 rfl (lv_at hl 0 rfl) ?_
                refine lv_iload_n hx hb dX5_builds_137 rfl (lv_at hl 1 rfl) ?_
                have hwc : wW G A9 s9.heap (([] : va_W) ++ ((wMd G a (m.1, m.2.1, m.2.2.1, (mdSolve m.2.1 m.2.2.2.1), m.2.2.2.2.1, ((mdSidesP m.2.1 (mdSolve m.2.1 m.2.2.2.1) (mdBuildK m.2.1 (mdSolve m.2.1 m.2.2.2.1) m.2.2.2.2.1 (mdSd0 m.2.1 (mdSolve m.2.1 m.2.2.2.1) m.2.2.2.2.1 m.2.2.2.2.2.1.1, m.2.2.2.2.2.1.2.1, upd m.2.2.2.2.2.1.2.2 8 (mdFl8 m.2.2.2.2.1 (mdSd0 m.2.1 (mdSolve m.2.1 m.2.2.2.1) m.2.2.2.2.1 m.2.2.2.2.2.1.1))) k).1 k (m.2.2.2.2.1.2.2.2.2.2.1 k) (m.2.2.2.2.1.2.2.2.2.2.2.1 k)), (upd ((mdBuildK m.2.1 (mdSolve m.2.1 m.2.2.2.1) m.2.2.2.2.1 (mdSd0 m.2.1 (mdSolve m.2.1 m.2.2.2.1) m.2.2.2.2.1 m.2.2.2.2.2.1.1, m.2.2.2.2.2.1.2.1, upd m.2.2.2.2.2.1.2.2 8 (mdFl8 m.2.2.2.2.1 (mdSd0 m.2.1 (mdSolve m.2.1 m.2.2.2.1) m.2.2.2.2.1 m.2.2.2.2.2.1.1))) k).2.1) k z), (mdBuildK m.2.1 (mdSolve m.2.1 m.2.2.2.1) m.2.2.2.2.1 (mdSd0 m.2.1 (mdSolve m.2.1 m.2.2.2.1) m.2.2.2.2.1 m.2.2.2.2.2.1.1, m.2.2.2.2.2.1.2.1, upd m.2.2.2.2.2.1.2.2 8 (mdFl8 m.2.2.2.2.1 (mdSd0 m.2.1 (mdSolve m.2.1 m.2.2.2.1) m.2.2.2.2.1 m.2.2.2.2.2.1.1))) k).2.2), m.2.2.2.2.2.2)) ++ ([] : va_W))) H locs := hw
                refine r_calli (res := (mdFlat (mdSidesP m.2.1 (mdSolve m.2.1 m.2.2.2.1) (mdBuildK m.2.1 (mdSolve m.2.1 m.2.2.2.1) m.2.2.2.2.1 (mdSd0 m.2.1 (mdSolve m.2.1 m.2.2.2.1) m.2.2.2.2.1 m.2.2.2.2.2.1.1, m.2.2.2.2.2.1.2.1, upd m.2.2.2.2.2.1.2.2 8 (mdFl8 m.2.2.2.2.1 (mdSd0 m.2.1 (mdSolve m.2.1 m.2.2.2.1) m.2.2.2.2.1 m.2.2.2.2.2.1.1))) k).1 k (m.2.2.2.2.1.2.2.2.2.2.1 k) (m.2.2.2.2.1.2.2.2.2.2.2.1 k)) k)) (u := ([] : va_W)) (w := wMd G a (m.1, m.2.1, m.2.2.1, (mdSolve m.2.1 m.2.2.2.1), m.2.2.2.2.1, ((mdSidesP m.2.1 (mdSolve m.2.1 m.2.2.2.1) (mdBuildK m.2.1 (mdSolve m.2.1 m.2.2.2.1) m.2.2.2.2.1 (mdSd0 m.2.1 (mdSolve m.2.1 m.2.2.2.1) m.2.2.2.2.1 m.2.2.2.2.2.1.1, m.2.2.2.2.2.1.2.1, upd m.2.2.2.2.2.1.2.2 8 (mdFl8 m.2.2.2.2.1 (mdSd0 m.2.1 (mdSolve m.2.1 m.2.2.2.1) m.2.2.2.2.1 m.2.2.2.2.2.1.1))) k).1 k (m.2.2.2.2.1.2.2.2.2.2.1 k) (m.2.2.2.2.1.2.2.2.2.2.2.1 k)), (upd ((mdBuildK m.2.1 (mdSolve m.2.1 m.2.2.2.1) m.2.2.2.2.1 (mdSd0 m.2.1 (mdSolve m.2.1 m.2.2.2.1) m.2.2.2.2.1 m.2.2.2.2.2.1.1, m.2.2.2.2.2.1.2.1, upd m.2.2.2.2.2.1.2.2 8 (mdFl8 m.2.2.2.2.1 (mdSd0 m.2.1 (mdSolve m.2.1 m.2.2.2.1) m.2.2.2.2.1 m.2.2.2.2.2.1.1))) k).2.1) k z), (mdBuildK m.2.1 (mdSolve m.2.1 m.2.2.2.1) m.2.2.2.2.1 (mdSd0 m.2.1 (mdSolve m.2.1 m.2.2.2.1) m.2.2.2.2.1 m.2.2.2.2.2.1.1, m.2.2.2.2.2.1.2.1, upd m.2.2.2.2.2.1.2.2 8 (mdFl8 m.2.2.2.2.1 (mdSd0 m.2.1 (mdSolve m.2.1 m.2.2.2.1) m.2.2.2.2.1 m.2.2.2.2.2.1.1))) k).2.2), m.2.2.2.2.2.2)) (v := ([] : va_W)) (va_runV (As := [.int (nI k)]) (rest := [.int (nI k), .ref (a 18)]) ⟨hx, hb, hml, hown, hts⟩ (c_flat l G a (m.1, m.2.1, m.2.2.1, (mdSolve m.2.1 m.2.2.2.1), m.2.2.2.2.1, ((mdSidesP m.2.1 (mdSolve m.2.1 m.2.2.2.1) (mdBuildK m.2.1 (mdSolve m.2.1 m.2.2.2.1) m.2.2.2.2.1 (mdSd0 m.2.1 (mdSolve m.2.1 m.2.2.2.1) m.2.2.2.2.1 m.2.2.2.2.2.1.1, m.2.2.2.2.2.1.2.1, upd m.2.2.2.2.2.1.2.2 8 (mdFl8 m.2.2.2.2.1 (mdSd0 m.2.1 (mdSolve m.2.1 m.2.2.2.1) m.2.2.2.2.1 m.2.2.2.2.2.1.1))) k).1 k (m.2.2.2.2.1.2.2.2.2.2.1 k) (m.2.2.2.2.1.2.2.2.2.2.2.1 k)), (upd ((mdBuildK m.2.1 (mdSolve m.2.1 m.2.2.2.1) m.2.2.2.2.1 (mdSd0 m.2.1 (mdSolve m.2.1 m.2.2.2.1) m.2.2.2.2.1 m.2.2.2.2.2.1.1, m.2.2.2.2.2.1.2.1, upd m.2.2.2.2.2.1.2.2 8 (mdFl8 m.2.2.2.2.1 (mdSd0 m.2.1 (mdSolve m.2.1 m.2.2.2.1) m.2.2.2.2.1 m.2.2.2.2.2.1.1))) k).2.1) k z), (mdBuildK m.2.1 (mdSolve m.2.1 m.2.2.2.1) m.2.2.2.2.1 (mdSd0 m.2.1 (mdSolve m.2.1 m.2.2.2.1) m.2.2.2.2.1 m.2.2.2.2.2.1.1, m.2.2.2.2.2.1.2.1, upd m.2.2.2.2.2.1.2.2 8 (mdFl8 m.2.2.2.2.1 (mdSd0 m.2.1 (mdSolve m.2.1 m.2.2.2.1) m.2.2.2.2.1 m.2.2.2.2.2.1.1))) k).2.2), m.2.2.2.2.2.2) k (by first | assumption | omega | decide) H.size) (cwV 1 hts gX5_builds_X5_isFlat rfl rfl rfl (by decide +kernel) ⟨Nat.le_of_ble_eq_true rfl, Nat.le_of_ble_eq_true rfl⟩) (r_preV (ci := 5) (q0 := 0) hK hwc rfl rfl rfl) rfl rfl hl.1 rfl (lv_room (Nat.le_of_ble_eq_true rfl)) dX5_builds_138 ⟨Nat.le_of_ble_eq_true rfl, Nat.le_of_ble_eq_true rfl⟩) hwc hA rfl rfl (fun H locs hw => ?_)
                have hw : wW G A9 s9.heap (wMd G a (m.1, m.2.1, m.2.2.1, (mdSolve m.2.1 m.2.2.2.1), m.2.2.2.2.1, ((mdSidesP m.2.1 (mdSolve m.2.1 m.2.2.2.1) (mdBuildK m.2.1 (mdSolve m.2.1 m.2.2.2.1) m.2.2.2.2.1 (mdSd0 m.2.1 (mdSolve m.2.1 m.2.2.2.1) m.2.2.2.2.1 m.2.2.2.2.2.1.1, m.2.2.2.2.2.1.2.1, upd m.2.2.2.2.2.1.2.2 8 (mdFl8 m.2.2.2.2.1 (mdSd0 m.2.1 (mdSolve m.2.1 m.2.2.2.1) m.2.2.2.2.1 m.2.2.2.2.2.1.1))) k).1 k (m.2.2.2.2.1.2.2.2.2.2.1 k) (m.2.2.2.2.1.2.2.2.2.2.2.1 k)), (upd ((mdBuildK m.2.1 (mdSolve m.2.1 m.2.2.2.1) m.2.2.2.2.1 (mdSd0 m.2.1 (mdSolve m.2.1 m.2.2.2.1) m.2.2.2.2.1 m.2.2.2.2.2.1.1, m.2.2.2.2.2.1.2.1, upd m.2.2.2.2.2.1.2.2 8 (mdFl8 m.2.2.2.2.1 (mdSd0 m.2.1 (mdSolve m.2.1 m.2.2.2.1) m.2.2.2.2.1 m.2.2.2.2.2.1.1))) k).2.1) k z), (mdBuildK m.2.1 (mdSolve m.2.1 m.2.2.2.1) m.2.2.2.2.1 (mdSd0 m.2.1 (mdSolve m.2.1 m.2.2.2.1) m.2.2.2.2.1 m.2.2.2.2.2.1.1, m.2.2.2.2.2.1.2.1, upd m.2.2.2.2.2.1.2.2 8 (mdFl8 m.2.2.2.2.1 (mdSd0 m.2.1 (mdSolve m.2.1 m.2.2.2.1) m.2.2.2.2.1 m.2.2.2.2.2.1.1))) k).2.2), m.2.2.2.2.2.2)) H locs := hw
                refine lv_if_ne (tgt := 182) hx hb dX5_builds_141 (by decide) (fun c_141 => ?_) (fun c_141 => ?_)
                · refine lv_iconst (v := 1) hx hb dX5_builds_182 (by decide) ?_
                  refine lv_goto (tgt := 187) hx hb dX5_builds_183 (by decide) ?_
                  exact join_187 1 (by simp only [mdFl, ← hq, if_neg c_141]) (by decide) _ _ _ hw (lv_sub hl [0, 1, 2] rfl)
                · refine lv_aload_n hx hb dX5_builds_144 rfl (lv_at hl 0 rfl) ?_
                  refine r_get (ci := 5) (v := .ref (a 18)) (C := RX5) (T := TX5) (N := 29) hx hb hts wiX5_builds_builds_X5 hown hK hw 0 rfl rfl 25 (by decide) wmX5_builds_builds_0 (fun _ h9 => h9) rfl dX5_builds_145 ?_
                  refine lv_iload_n hx hb dX5_builds_148 rfl (lv_at hl 2 rfl) ?_
                  refine r_zald (v := ((mdBuildK m.2.1 (mdSolve m.2.1 m.2.2.2.1) m.2.2.2.2.1 (mdSd0 m.2.1 (mdSolve m.2.1 m.2.2.2.1) m.2.2.2.2.1 m.2.2.2.2.2.1.1, m.2.2.2.2.2.1.2.1, upd m.2.2.2.2.2.1.2.2 8 (mdFl8 m.2.2.2.2.1 (mdSd0 m.2.1 (mdSolve m.2.1 m.2.2.2.1) m.2.2.2.2.1 m.2.2.2.2.2.1.1))) k).2.2) q) hx hb hK hw 18 rfl q rfl (by omega) (by decide) rfl dX5_builds_149 ?_
                  refine lv_if_ne (tgt := 182) hx hb dX5_builds_150 (by decide) (fun c_150 => ?_) (fun c_150 => ?_)
                  · refine lv_iconst (v := 1) hx hb dX5_builds_182 (by decide) ?_
                    refine lv_goto (tgt := 187) hx hb dX5_builds_183 (by decide) ?_
                    exact join_187 1 (by simp only [mdFl, ← hq, if_pos c_141, if_neg c_150]) (by decide) _ _ _ hw (lv_sub hl [0, 1, 2] rfl)
                  · refine lv_aload_n hx hb dX5_builds_153 rfl (lv_at hl 0 rfl) ?_
                    refine lv_iload_n hx hb dX5_builds_154 rfl (lv_at hl 1 rfl) ?_
                    refine lv_iload_n hx hb dX5_builds_155 rfl (lv_at hl 2 rfl) ?_
                    have hwc : wW G A9 s9.heap (([] : va_W) ++ ((wMd G a (m.1, m.2.1, m.2.2.1, (mdSolve m.2.1 m.2.2.2.1), m.2.2.2.2.1, ((mdSidesP m.2.1 (mdSolve m.2.1 m.2.2.2.1) (mdBuildK m.2.1 (mdSolve m.2.1 m.2.2.2.1) m.2.2.2.2.1 (mdSd0 m.2.1 (mdSolve m.2.1 m.2.2.2.1) m.2.2.2.2.1 m.2.2.2.2.2.1.1, m.2.2.2.2.2.1.2.1, upd m.2.2.2.2.2.1.2.2 8 (mdFl8 m.2.2.2.2.1 (mdSd0 m.2.1 (mdSolve m.2.1 m.2.2.2.1) m.2.2.2.2.1 m.2.2.2.2.2.1.1))) k).1 k (m.2.2.2.2.1.2.2.2.2.2.1 k) (m.2.2.2.2.1.2.2.2.2.2.2.1 k)), (upd ((mdBuildK m.2.1 (mdSolve m.2.1 m.2.2.2.1) m.2.2.2.2.1 (mdSd0 m.2.1 (mdSolve m.2.1 m.2.2.2.1) m.2.2.2.2.1 m.2.2.2.2.2.1.1, m.2.2.2.2.2.1.2.1, upd m.2.2.2.2.2.1.2.2 8 (mdFl8 m.2.2.2.2.1 (mdSd0 m.2.1 (mdSolve m.2.1 m.2.2.2.1) m.2.2.2.2.1 m.2.2.2.2.2.1.1))) k).2.1) k z), (mdBuildK m.2.1 (mdSolve m.2.1 m.2.2.2.1) m.2.2.2.2.1 (mdSd0 m.2.1 (mdSolve m.2.1 m.2.2.2.1) m.2.2.2.2.1 m.2.2.2.2.2.1.1, m.2.2.2.2.2.1.2.1, upd m.2.2.2.2.2.1.2.2 8 (mdFl8 m.2.2.2.2.1 (mdSd0 m.2.1 (mdSolve m.2.1 m.2.2.2.1) m.2.2.2.2.1 m.2.2.2.2.2.1.1))) k).2.2), m.2.2.2.2.2.2)) ++ ([] : va_W))) H locs := hw
                    refine r_calli (res := (mdLies (mdSidesP m.2.1 (mdSolve m.2.1 m.2.2.2.1) (mdBuildK m.2.1 (mdSolve m.2.1 m.2.2.2.1) m.2.2.2.2.1 (mdSd0 m.2.1 (mdSolve m.2.1 m.2.2.2.1) m.2.2.2.2.1 m.2.2.2.2.2.1.1, m.2.2.2.2.2.1.2.1, upd m.2.2.2.2.2.1.2.2 8 (mdFl8 m.2.2.2.2.1 (mdSd0 m.2.1 (mdSolve m.2.1 m.2.2.2.1) m.2.2.2.2.1 m.2.2.2.2.2.1.1))) k).1 k (m.2.2.2.2.1.2.2.2.2.2.1 k) (m.2.2.2.2.1.2.2.2.2.2.2.1 k)) k q)) (u := ([] : va_W)) (w := wMd G a (m.1, m.2.1, m.2.2.1, (mdSolve m.2.1 m.2.2.2.1), m.2.2.2.2.1, ((mdSidesP m.2.1 (mdSolve m.2.1 m.2.2.2.1) (mdBuildK m.2.1 (mdSolve m.2.1 m.2.2.2.1) m.2.2.2.2.1 (mdSd0 m.2.1 (mdSolve m.2.1 m.2.2.2.1) m.2.2.2.2.1 m.2.2.2.2.2.1.1, m.2.2.2.2.2.1.2.1, upd m.2.2.2.2.2.1.2.2 8 (mdFl8 m.2.2.2.2.1 (mdSd0 m.2.1 (mdSolve m.2.1 m.2.2.2.1) m.2.2.2.2.1 m.2.2.2.2.2.1.1))) k).1 k (m.2.2.2.2.1.2.2.2.2.2.1 k) (m.2.2.2.2.1.2.2.2.2.2.2.1 k)), (upd ((mdBuildK m.2.1 (mdSolve m.2.1 m.2.2.2.1) m.2.2.2.2.1 (mdSd0 m.2.1 (mdSolve m.2.1 m.2.2.2.1) m.2.2.2.2.1 m.2.2.2.2.2.1.1, m.2.2.2.2.2.1.2.1, upd m.2.2.2.2.2.1.2.2 8 (mdFl8 m.2.2.2.2.1 (mdSd0 m.2.1 (mdSolve m.2.1 m.2.2.2.1) m.2.2.2.2.1 m.2.2.2.2.2.1.1))) k).2.1) k z), (mdBuildK m.2.1 (mdSolve m.2.1 m.2.2.2.1) m.2.2.2.2.1 (mdSd0 m.2.1 (mdSolve m.2.1 m.2.2.2.1) m.2.2.2.2.1 m.2.2.2.2.2.1.1, m.2.2.2.2.2.1.2.1, upd m.2.2.2.2.2.1.2.2 8 (mdFl8 m.2.2.2.2.1 (mdSd0 m.2.1 (mdSolve m.2.1 m.2.2.2.1) m.2.2.2.2.1 m.2.2.2.2.2.1.1))) k).2.2), m.2.2.2.2.2.2)) (v := ([] : va_W)) (va_runV (As := [.int (nI k), .int (nI q)]) (rest := [.int (nI k), .ref (a 18)]) ⟨hx, hb, hml, hown, hts⟩ (c_mlies l G a (m.1, m.2.1, m.2.2.1, (mdSolve m.2.1 m.2.2.2.1), m.2.2.2.2.1, ((mdSidesP m.2.1 (mdSolve m.2.1 m.2.2.2.1) (mdBuildK m.2.1 (mdSolve m.2.1 m.2.2.2.1) m.2.2.2.2.1 (mdSd0 m.2.1 (mdSolve m.2.1 m.2.2.2.1) m.2.2.2.2.1 m.2.2.2.2.2.1.1, m.2.2.2.2.2.1.2.1, upd m.2.2.2.2.2.1.2.2 8 (mdFl8 m.2.2.2.2.1 (mdSd0 m.2.1 (mdSolve m.2.1 m.2.2.2.1) m.2.2.2.2.1 m.2.2.2.2.2.1.1))) k).1 k (m.2.2.2.2.1.2.2.2.2.2.1 k) (m.2.2.2.2.1.2.2.2.2.2.2.1 k)), (upd ((mdBuildK m.2.1 (mdSolve m.2.1 m.2.2.2.1) m.2.2.2.2.1 (mdSd0 m.2.1 (mdSolve m.2.1 m.2.2.2.1) m.2.2.2.2.1 m.2.2.2.2.2.1.1, m.2.2.2.2.2.1.2.1, upd m.2.2.2.2.2.1.2.2 8 (mdFl8 m.2.2.2.2.1 (mdSd0 m.2.1 (mdSolve m.2.1 m.2.2.2.1) m.2.2.2.2.1 m.2.2.2.2.2.1.1))) k).2.1) k z), (mdBuildK m.2.1 (mdSolve m.2.1 m.2.2.2.1) m.2.2.2.2.1 (mdSd0 m.2.1 (mdSolve m.2.1 m.2.2.2.1) m.2.2.2.2.1 m.2.2.2.2.2.1.1, m.2.2.2.2.2.1.2.1, upd m.2.2.2.2.2.1.2.2 8 (mdFl8 m.2.2.2.2.1 (mdSd0 m.2.1 (mdSolve m.2.1 m.2.2.2.1) m.2.2.2.2.1 m.2.2.2.2.2.1.1))) k).2.2), m.2.2.2.2.2.2) k q (by first | assumption | omega | decide) (by first | assumption | omega | decide) H.size) (cwV 2 hts gX5_builds_X5_lies rfl rfl rfl (by decide +kernel) ⟨Nat.le_of_ble_eq_true rfl, Nat.le_of_ble_eq_true rfl⟩) (r_preV (ci := 5) (q0 := 0) hK hwc rfl rfl rfl) rfl rfl hl.1 rfl (lv_room (Nat.le_of_ble_eq_true rfl)) dX5_builds_156 ⟨Nat.le_of_ble_eq_true rfl, Nat.le_of_ble_eq_true rfl⟩) hwc hA rfl rfl (fun H locs hw => ?_)
                    have hw : wW G A9 s9.heap (wMd G a (m.1, m.2.1, m.2.2.1, (mdSolve m.2.1 m.2.2.2.1), m.2.2.2.2.1, ((mdSidesP m.2.1 (mdSolve m.2.1 m.2.2.2.1) (mdBuildK m.2.1 (mdSolve m.2.1 m.2.2.2.1) m.2.2.2.2.1 (mdSd0 m.2.1 (mdSolve m.2.1 m.2.2.2.1) m.2.2.2.2.1 m.2.2.2.2.2.1.1, m.2.2.2.2.2.1.2.1, upd m.2.2.2.2.2.1.2.2 8 (mdFl8 m.2.2.2.2.1 (mdSd0 m.2.1 (mdSolve m.2.1 m.2.2.2.1) m.2.2.2.2.1 m.2.2.2.2.2.1.1))) k).1 k (m.2.2.2.2.1.2.2.2.2.2.1 k) (m.2.2.2.2.1.2.2.2.2.2.2.1 k)), (upd ((mdBuildK m.2.1 (mdSolve m.2.1 m.2.2.2.1) m.2.2.2.2.1 (mdSd0 m.2.1 (mdSolve m.2.1 m.2.2.2.1) m.2.2.2.2.1 m.2.2.2.2.2.1.1, m.2.2.2.2.2.1.2.1, upd m.2.2.2.2.2.1.2.2 8 (mdFl8 m.2.2.2.2.1 (mdSd0 m.2.1 (mdSolve m.2.1 m.2.2.2.1) m.2.2.2.2.1 m.2.2.2.2.2.1.1))) k).2.1) k z), (mdBuildK m.2.1 (mdSolve m.2.1 m.2.2.2.1) m.2.2.2.2.1 (mdSd0 m.2.1 (mdSolve m.2.1 m.2.2.2.1) m.2.2.2.2.1 m.2.2.2.2.2.1.1, m.2.2.2.2.2.1.2.1, upd m.2.2.2.2.2.1.2.2 8 (mdFl8 m.2.2.2.2.1 (mdSd0 m.2.1 (mdSolve m.2.1 m.2.2.2.1) m.2.2.2.2.1 m.2.2.2.2.2.1.1))) k).2.2), m.2.2.2.2.2.2)) H locs := hw
                    refine lv_if_eq (tgt := 182) hx hb dX5_builds_159 (by decide) (fun c_159 => ?_) (fun c_159 => ?_)
                    · refine lv_iconst (v := 1) hx hb dX5_builds_182 (by decide) ?_
                      refine lv_goto (tgt := 187) hx hb dX5_builds_183 (by decide) ?_
                      exact join_187 1 (by simp only [mdFl, ← hq, if_pos c_141, if_pos c_150, if_pos c_159]) (by decide) _ _ _ hw (lv_sub hl [0, 1, 2] rfl)
                    · refine lv_aload_n hx hb dX5_builds_162 rfl (lv_at hl 0 rfl) ?_
                      refine r_get (ci := 5) (v := .ref (a 17)) (C := RX5) (T := TX5) (N := 29) hx hb hts wiX5_builds_builds_X5 hown hK hw 0 rfl rfl 24 (by decide) wmX5_builds_builds_4 (fun _ h9 => h9) rfl dX5_builds_163 ?_
                      refine lv_iload_n hx hb dX5_builds_166 rfl (lv_at hl 1 rfl) ?_
                      refine r_iald (v := (upd ((mdBuildK m.2.1 (mdSolve m.2.1 m.2.2.2.1) m.2.2.2.2.1 (mdSd0 m.2.1 (mdSolve m.2.1 m.2.2.2.1) m.2.2.2.2.1 m.2.2.2.2.2.1.1, m.2.2.2.2.2.1.2.1, upd m.2.2.2.2.2.1.2.2 8 (mdFl8 m.2.2.2.2.1 (mdSd0 m.2.1 (mdSolve m.2.1 m.2.2.2.1) m.2.2.2.2.1 m.2.2.2.2.2.1.1))) k).2.1) k z) k) hx hb hK hw 17 rfl k rfl (by omega) (by decide) rfl dX5_builds_167 ?_
                      refine r_top (y := z) pk_us ?_
                      refine lv_aload_n hx hb dX5_builds_168 rfl (lv_at hl 0 rfl) ?_
                      refine r_get (ci := 5) (v := .ref (a 14)) (C := RX5) (T := TX5) (N := 29) hx hb hts wiX5_builds_builds_X5 hown hK hw 0 rfl rfl 21 (by decide) wmX5_builds_builds_5 (fun _ h9 => h9) rfl dX5_builds_169 ?_
                      refine lv_iload_n hx hb dX5_builds_172 rfl (lv_at hl 1 rfl) ?_
                      refine r_iald (v := m.2.2.2.2.1.2.2.2.2.2.2.2.1 k) hx hb hK hw 14 rfl k rfl (by omega) (by decide) rfl dX5_builds_173 ?_
                      refine lv_iadd hx hb dX5_builds_174 ?_
                      refine lv_aload_n hx hb dX5_builds_175 rfl (lv_at hl 0 rfl) ?_
                      refine r_get (ci := 5) (v := .int m.2.2.2.2.1.2.2.2.1) (C := RX5) (T := TX5) (N := 29) hx hb hts wiX5_builds_builds_X5 hown hK hw 0 rfl rfl 17 (by decide) wmX5_builds_builds_6 (fun _ h9 => h9) rfl dX5_builds_176 ?_
                      refine lv_icmp_lt (tgt := 186) hx hb dX5_builds_179 (by decide) (fun c_179 => ?_) (fun c_179 => ?_)
                      · refine lv_iconst (v := 0) hx hb dX5_builds_186 (by decide) ?_
                        exact join_187 0 (by simp only [mdFl, ← hq, if_pos c_141, if_pos c_150, if_neg c_159, if_pos c_179]) (by decide) _ _ _ hw (lv_sub hl [0, 1, 2] rfl)
                      · refine lv_iconst (v := 1) hx hb dX5_builds_182 (by decide) ?_
                        refine lv_goto (tgt := 187) hx hb dX5_builds_183 (by decide) ?_
                        exact join_187 1 (by simp only [mdFl, ← hq, if_pos c_141, if_pos c_150, if_neg c_159, if_neg c_179]) (by decide) _ _ _ hw (lv_sub hl [0, 1, 2] rfl)
              refine lv_iload_n hx hb dX5_builds_107 rfl (lv_at hl 0 rfl) ?_
              refine lv_bipush (v := 8) hx hb dX5_builds_108 (by decide) ?_
              refine lv_icmp_ne (tgt := 117) hx hb dX5_builds_110 (by decide) (fun c_110 => ?_) (fun c_110 => ?_)
              · have hq7 : q < 8 := by rcases hq8 with h | h; exact absurd (by rw [h]; rfl) c_110; omega
                refine lv_aload_n hx hb dX5_builds_117 rfl (lv_at hl 1 rfl) ?_
                refine r_get (ci := 5) (v := .ref (a 17)) (C := RX5) (T := TX5) (N := 29) hx hb hts wiX5_builds_builds_X5 hown hK hw 0 rfl rfl 24 (by decide) wmX5_builds_builds_4 (fun _ h9 => h9) rfl dX5_builds_118 ?_
                refine lv_iload_n hx hb dX5_builds_121 rfl (lv_at hl 0 rfl) ?_
                refine r_iald (v := ((mdBuildK m.2.1 (mdSolve m.2.1 m.2.2.2.1) m.2.2.2.2.1 (mdSd0 m.2.1 (mdSolve m.2.1 m.2.2.2.1) m.2.2.2.2.1 m.2.2.2.2.2.1.1, m.2.2.2.2.2.1.2.1, upd m.2.2.2.2.2.1.2.2 8 (mdFl8 m.2.2.2.2.1 (mdSd0 m.2.1 (mdSolve m.2.1 m.2.2.2.1) m.2.2.2.2.1 m.2.2.2.2.2.1.1))) k).2.1) q) hx hb hK hw 17 rfl q rfl (by omega) (by decide) rfl dX5_builds_122 ?_
                refine lv_aload_n hx hb dX5_builds_123 rfl (lv_at hl 1 rfl) ?_
                refine r_get (ci := 5) (v := .ref (a 14)) (C := RX5) (T := TX5) (N := 29) hx hb hts wiX5_builds_builds_X5 hown hK hw 0 rfl rfl 21 (by decide) wmX5_builds_builds_5 (fun _ h9 => h9) rfl dX5_builds_124 ?_
                refine lv_iload_n hx hb dX5_builds_127 rfl (lv_at hl 0 rfl) ?_
                refine r_iald (v := m.2.2.2.2.1.2.2.2.2.2.2.2.1 q) hx hb hK hw 14 rfl q rfl (by omega) (by decide) rfl dX5_builds_128 ?_
                refine lv_iadd hx hb dX5_builds_129 ?_
                exact join_130 ((((mdBuildK m.2.1 (mdSolve m.2.1 m.2.2.2.1) m.2.2.2.2.1 (mdSd0 m.2.1 (mdSolve m.2.1 m.2.2.2.1) m.2.2.2.2.1 m.2.2.2.2.2.1.1, m.2.2.2.2.2.1.2.1, upd m.2.2.2.2.2.1.2.2 8 (mdFl8 m.2.2.2.2.1 (mdSd0 m.2.1 (mdSolve m.2.1 m.2.2.2.1) m.2.2.2.2.1 m.2.2.2.2.2.1.1))) k).2.1) q) + (m.2.2.2.2.1.2.2.2.2.2.2.2.1 q)) (by simp only [mdBg, ← hq, if_neg c_110]) _ _ _ hw (lv_sub hl [1, 2, 0] rfl)
              · refine lv_iconst (v := 0) hx hb dX5_builds_113 (by decide) ?_
                refine lv_goto (tgt := 130) hx hb dX5_builds_114 (by decide) ?_
                exact join_130 0 (by simp only [mdBg, ← hq, if_pos c_110]) _ _ _ hw (lv_sub hl [1, 2, 0] rfl)
            refine lv_aload_n hx hb dX5_builds_63 rfl (lv_at hl 0 rfl) ?_
            refine r_get (ci := 5) (v := .ref (a 15)) (C := RX5) (T := TX5) (N := 29) hx hb hts wiX5_builds_builds_X5 hown hK hw 0 rfl rfl 22 (by decide) wmX5_builds_builds_7 (fun _ h9 => h9) rfl dX5_builds_64 ?_
            refine lv_iload_n hx hb dX5_builds_67 rfl (lv_at hl 1 rfl) ?_
            refine r_iald (v := m.2.2.2.2.1.2.2.2.2.2.2.2.2 k) hx hb hK hw 15 rfl k rfl (by omega) (by decide) rfl dX5_builds_68 ?_
            refine lv_iconst (v := (-1)) hx hb dX5_builds_69 (by decide) ?_
            refine lv_icmp_ne (tgt := 78) hx hb dX5_builds_70 (by decide) (fun c_70 => ?_) (fun c_70 => ?_)
            · refine lv_aload_n hx hb dX5_builds_78 rfl (lv_at hl 0 rfl) ?_
              refine r_get (ci := 5) (v := .ref (a 15)) (C := RX5) (T := TX5) (N := 29) hx hb hts wiX5_builds_builds_X5 hown hK hw 0 rfl rfl 22 (by decide) wmX5_builds_builds_7 (fun _ h9 => h9) rfl dX5_builds_79 ?_
              refine lv_iload_n hx hb dX5_builds_82 rfl (lv_at hl 1 rfl) ?_
              refine r_iald (v := m.2.2.2.2.1.2.2.2.2.2.2.2.2 k) hx hb hK hw 15 rfl k rfl (by omega) (by decide) rfl dX5_builds_83 ?_
              refine r_top (y := nI (iN (m.2.2.2.2.1.2.2.2.2.2.2.2.2 k))) (nI_iN _) ?_
              exact join_84 (iN (m.2.2.2.2.1.2.2.2.2.2.2.2.2 k)) (by simp only [mdInn, if_neg c_70]) (by rcases hwi with h | h; exact absurd h c_70; exact Or.inr h) _ _ _ hw (lv_sub hl [0, 1] rfl)
            · refine lv_bipush (v := 8) hx hb dX5_builds_73 (by decide) ?_
              refine lv_goto (tgt := 84) hx hb dX5_builds_75 (by decide) ?_
              exact join_84 8 (by simp only [mdInn, if_pos c_70]) (Or.inl rfl) _ _ _ hw (lv_sub hl [0, 1] rfl)
      exact loop_55 ((m.2.2.2.2.1.2.2.2.2.1 - 0) + 1) 0 (Nat.lt_succ_self _) (by first | assumption | omega | rfl) _ _ _ (wW.eq (show wMd G a (m.1, m.2.1, m.2.2.1, (mdSolve m.2.1 m.2.2.2.1), m.2.2.2.2.1, (sv, m.2.2.2.2.2.1.2.1, (upd m.2.2.2.2.2.1.2.2 8 v)), m.2.2.2.2.2.2) = wMd G a (m.1, m.2.1, m.2.2.1, (mdSolve m.2.1 m.2.2.2.1), m.2.2.2.2.1, (mdBuildK m.2.1 (mdSolve m.2.1 m.2.2.2.1) m.2.2.2.2.1 (mdSd0 m.2.1 (mdSolve m.2.1 m.2.2.2.1) m.2.2.2.2.1 m.2.2.2.2.2.1.1, m.2.2.2.2.2.1.2.1, upd m.2.2.2.2.2.1.2.2 8 (mdFl8 m.2.2.2.2.1 (mdSd0 m.2.1 (mdSolve m.2.1 m.2.2.2.1) m.2.2.2.2.1 m.2.2.2.2.2.1.1))) 0), m.2.2.2.2.2.2) from (by subst hv; subst hsv; rfl)) hw) (lv_sub hl [1, 0] rfl)
    refine lv_aload_n hx hb dX5_builds_31 rfl (lv_at hl 0 rfl) ?_
    refine r_get (ci := 5) (v := .int m.2.2.2.2.1.1) (C := RX5) (T := TX5) (N := 29) hx hb hts wiX5_builds_builds_X5 hown hK hw 0 rfl rfl 14 (by decide) wmX5_builds_builds_8 (fun _ h9 => h9) rfl dX5_builds_32 ?_
    refine lv_if_eq (tgt := 47) hx hb dX5_builds_35 (by decide) (fun c_35 => ?_) (fun c_35 => ?_)
    · refine lv_iconst (v := 1) hx hb dX5_builds_47 (by decide) ?_
      refine lv_goto (tgt := 52) hx hb dX5_builds_48 (by decide) ?_
      exact join_52 1 (by simp only [mdFl8, if_pos c_35]) (by decide) _ _ _ hw (lv_sub hl [0] rfl)
    · refine lv_aload_n hx hb dX5_builds_38 rfl (lv_at hl 0 rfl) ?_
      refine lv_bipush (v := 8) hx hb dX5_builds_39 (by decide) ?_
      have hwc : wW G A9 s9.heap (([] : va_W) ++ ((wMd G a (m.1, m.2.1, m.2.2.1, (mdSolve m.2.1 m.2.2.2.1), m.2.2.2.2.1, (sv, m.2.2.2.2.2.1.2.1, m.2.2.2.2.2.1.2.2), m.2.2.2.2.2.2)) ++ ([] : va_W))) H locs := hw
      refine r_calli (res := (mdFlat sv 8)) (u := ([] : va_W)) (w := wMd G a (m.1, m.2.1, m.2.2.1, (mdSolve m.2.1 m.2.2.2.1), m.2.2.2.2.1, (sv, m.2.2.2.2.2.1.2.1, m.2.2.2.2.2.1.2.2), m.2.2.2.2.2.2)) (v := ([] : va_W)) (va_runV (As := [.int 8]) (rest := [.int 8, .ref (a 18)]) ⟨hx, hb, hml, hown, hts⟩ (c_flat l G a (m.1, m.2.1, m.2.2.1, (mdSolve m.2.1 m.2.2.2.1), m.2.2.2.2.1, (sv, m.2.2.2.2.2.1.2.1, m.2.2.2.2.2.1.2.2), m.2.2.2.2.2.2) 8 (by first | assumption | omega | decide) H.size) (cwV 1 hts gX5_builds_X5_isFlat rfl rfl rfl (by decide +kernel) ⟨Nat.le_of_ble_eq_true rfl, Nat.le_of_ble_eq_true rfl⟩) (r_preV (ci := 5) (q0 := 0) hK hwc rfl rfl rfl) rfl rfl hl.1 rfl (lv_room (Nat.le_of_ble_eq_true rfl)) dX5_builds_41 ⟨Nat.le_of_ble_eq_true rfl, Nat.le_of_ble_eq_true rfl⟩) hwc hA rfl rfl (fun H locs hw => ?_)
      have hw : wW G A9 s9.heap (wMd G a (m.1, m.2.1, m.2.2.1, (mdSolve m.2.1 m.2.2.2.1), m.2.2.2.2.1, (sv, m.2.2.2.2.2.1.2.1, m.2.2.2.2.2.1.2.2), m.2.2.2.2.2.2)) H locs := hw
      refine lv_if_eq (tgt := 51) hx hb dX5_builds_44 (by decide) (fun c_44 => ?_) (fun c_44 => ?_)
      · refine lv_iconst (v := 0) hx hb dX5_builds_51 (by decide) ?_
        exact join_52 0 (by simp only [mdFl8, if_neg c_35, if_pos c_44]) (by decide) _ _ _ hw (lv_sub hl [0] rfl)
      · refine lv_iconst (v := 1) hx hb dX5_builds_47 (by decide) ?_
        refine lv_goto (tgt := 52) hx hb dX5_builds_48 (by decide) ?_
        exact join_52 1 (by simp only [mdFl8, if_neg c_35, if_neg c_44]) (by decide) _ _ _ hw (lv_sub hl [0] rfl)
  refine lv_aload_n hx hb dX5_builds_4 rfl (lv_at hl 0 rfl) ?_
  refine r_get (ci := 5) (v := .int m.2.2.2.2.1.1) (C := RX5) (T := TX5) (N := 29) hx hb hts wiX5_builds_builds_X5 hown hK hw 0 rfl rfl 14 (by decide) wmX5_builds_builds_8 (fun _ h9 => h9) rfl dX5_builds_5 ?_
  refine lv_if_eq (tgt := 25) hx hb dX5_builds_8 (by decide) (fun c_8 => ?_) (fun c_8 => ?_)
  · exact join_25 m.2.2.2.2.2.1.1 (by simp only [mdSd0, if_pos c_8]) _ _ _ hw (lv_sub hl [0] rfl)
  · refine lv_aload_n hx hb dX5_builds_11 rfl (lv_at hl 0 rfl) ?_
    refine lv_bipush (v := 8) hx hb dX5_builds_12 (by decide) ?_
    refine lv_aload_n hx hb dX5_builds_14 rfl (lv_at hl 0 rfl) ?_
    refine r_get (ci := 5) (v := .int (nI m.2.2.2.2.1.2.1)) (C := RX5) (T := TX5) (N := 29) hx hb hts wiX5_builds_builds_X5 hown hK hw 0 rfl rfl 15 (by decide) wmX5_builds_builds_9 (fun _ h9 => h9) rfl dX5_builds_15 ?_
    refine lv_aload_n hx hb dX5_builds_18 rfl (lv_at hl 0 rfl) ?_
    refine r_get (ci := 5) (v := .int (nI m.2.2.2.2.1.2.2.1)) (C := RX5) (T := TX5) (N := 29) hx hb hts wiX5_builds_builds_X5 hown hK hw 0 rfl rfl 16 (by decide) wmX5_builds_builds_10 (fun _ h9 => h9) rfl dX5_builds_19 ?_
    have hwc : wW G A9 s9.heap (([] : va_W) ++ ((wMd G a (m.1, m.2.1, m.2.2.1, (mdSolve m.2.1 m.2.2.2.1), m.2.2.2.2.1, m.2.2.2.2.2.1, m.2.2.2.2.2.2)) ++ ([] : va_W))) H locs := hw
    refine r_callv (u := ([] : va_W)) (w := wMd G a (m.1, m.2.1, m.2.2.1, (mdSolve m.2.1 m.2.2.2.1), m.2.2.2.2.1, m.2.2.2.2.2.1, m.2.2.2.2.2.2)) (v := ([] : va_W)) (va_runV (As := [.int 8, .int (nI m.2.2.2.2.1.2.1), .int (nI m.2.2.2.2.1.2.2.1)]) (rest := []) ⟨hx, hb, hml, hown, hts⟩ (c_sides l G a (m.1, m.2.1, m.2.2.1, (mdSolve m.2.1 m.2.2.2.1), m.2.2.2.2.1, m.2.2.2.2.2.1, m.2.2.2.2.2.2) 8 m.2.2.2.2.1.2.1 m.2.2.2.2.1.2.2.1 (by first | assumption | omega | decide) (by first | assumption | omega | decide) (by first | assumption | omega | decide) H.size) (cwV 3 hts gX5_builds_X5_sides rfl rfl rfl (by decide +kernel) ⟨Nat.le_of_ble_eq_true rfl, Nat.le_of_ble_eq_true rfl⟩) (r_preV (ci := 5) (q0 := 0) hK hwc rfl rfl rfl) rfl rfl hl.1 rfl (lv_room (Nat.le_of_ble_eq_true rfl)) dX5_builds_22 ⟨Nat.le_of_ble_eq_true rfl, Nat.le_of_ble_eq_true rfl⟩) hwc hA rfl rfl (fun H locs hw => ?_)
    have hw : wW G A9 s9.heap (wMd G a (m.1, m.2.1, m.2.2.1, (mdSolve m.2.1 m.2.2.2.1), m.2.2.2.2.1, ((mdSidesP m.2.1 (mdSolve m.2.1 m.2.2.2.1) m.2.2.2.2.2.1.1 8 m.2.2.2.2.1.2.1 m.2.2.2.2.1.2.2.1), m.2.2.2.2.2.1.2.1, m.2.2.2.2.2.1.2.2), m.2.2.2.2.2.2)) H locs := hw
    exact join_25 (mdSidesP m.2.1 (mdSolve m.2.1 m.2.2.2.1) m.2.2.2.2.2.1.1 8 m.2.2.2.2.1.2.1 m.2.2.2.2.1.2.2.1) (by simp only [mdSd0, if_neg c_8]) _ _ _ hw (lv_sub hl [0] rfl)

theorem wiX5_setBase_m_setBase_X5 : ∀ w ∈ wsX50, w ∈ wsX5_setBase := by decide +kernel
theorem wmX5_setBase_m_setBase_0 : Cond.fieldLink RX5 74 "PartSketchModel" "thrown" "I" ∈ wsX5_setBase := by decide +kernel
theorem wmX5_setBase_m_setBase_1 : Cond.fieldLink RX5 117 "PartSketchModel" "isBase" "Z" ∈ wsX5_setBase := by decide +kernel
theorem wmX5_setBase_m_setBase_2 : Cond.fieldLink RX5 121 "PartSketchModel" "baseOne" "I" ∈ wsX5_setBase := by decide +kernel
theorem wmX5_setBase_m_setBase_3 : Cond.fieldLink RX5 124 "PartSketchModel" "baseOther" "I" ∈ wsX5_setBase := by decide +kernel
theorem wmX5_setBase_m_setBase_4 : Cond.fieldLink RX5 141 "PartSketchModel" "height" "I" ∈ wsX5_setBase := by decide +kernel
theorem wmX5_setBase_m_setBase_5 : Cond.fieldLink RX5 62 "PartSketchModel" "failing" "[Z" ∈ wsX5_setBase := by decide +kernel
set_option maxHeartbeats 4000000 in
set_option maxRecDepth 100000 in
/-- setBase -/
theorem c_m_setBase (l : Launch) (G : gT) (a : aMd) (m : tMd) (i : Int32) (j : Int32) (h : Int32) (hok : mdOk m.2.1) (hnp : m.2.1.1 ≤ 16) (hB : mdBok m.2.2.2.2.1) (sz : Nat) : MI l yX5_setBase wsX5_setBase ({ frames := 3, cells := 0, slots := 0, locals := 75 }) G [.ref (a 0), .int i, .int j, .int h] (wMd G a m) (wMd G a ((mdSetB m i j h).2)) sz ((mdSetB m i j h).1) 0 0 := by
  refine m_of (Qc := fun A9 => (va_Qi (fun (r9 : Int32) (_ : Unit) => r9 = ((mdSetB m i j h).1)) (fun _ t9 => wPost G A9 (wMd G a ((mdSetB m i j h).2)) t9) A9)) (cc := cX5_setBase) (maxL := 4) (ret := (some .boolean)) (by decide) rfl (Nat.le_of_ble_eq_true rfl) ?_
  intro p9 e9 s9 m9 A9 be9 mt9 c9 H locs ls hx hb hr hts hown hlocks hin hml hK hA hw hl
  have hl : lv_has ls 4 [(0, .ref (a 0)), (1, .int i), (2, .int j), (3, .int h)] := hl
  have join_36 : ∀ (v : Int32) (hv : v = mdSbT m i j h) (H : Heap) (locs : List Loc) (ls : Array Slot), wW G A9 s9.heap (wMd G a m) H locs → lv_has ls 4 [(0, .ref (a 0)), (1, .int i), (2, .int j), (3, .int h)] → W p9 l e9 ({ frames := 3, cells := 0, slots := 0, locals := 75 }) s9 m9 [.ref (a 0), .int i, .int j, .int h].toArray be9 mt9 c9 H locs 0 0 (MQ be9 (va_Qi (fun (r9 : Int32) (_ : Unit) => r9 = ((mdSetB m i j h).1)) (fun _ t9 => wPost G A9 (wMd G a ((mdSetB m i j h).2)) t9) A9) [.ref (a 0), .int i, .int j, .int h].toArray s9 0 0 A9) (F0 m9 36 ls [.int v, .ref (a 0)]) := by
    intro v hv H locs ls hw hl
    refine r_put (ci := 5) (v := .int v) (ty := .int) (C := RX5) (T := TX5) (N := 29) hx hb hts wiX5_setBase_m_setBase_X5 tyX5 tyX5_ok nmX5 hown hK hw 0 rfl rfl 0 (by decide) wmX5_setBase_m_setBase_0 (fun _ h9 => h9) rfl (by decide +kernel) rfl rfl (Nat.le_of_ble_eq_true rfl) dX5_setBase_36 (ws' := wMd G a (v, m.2.1, m.2.2.1, m.2.2.2.1, m.2.2.2.2.1, m.2.2.2.2.2.1, m.2.2.2.2.2.2)) rfl (fun H locs hw => ?_)
    refine lv_aload_n hx hb dX5_setBase_39 rfl (lv_at hl 0 rfl) ?_
    refine r_get (ci := 5) (v := .int v) (C := RX5) (T := TX5) (N := 29) hx hb hts wiX5_setBase_m_setBase_X5 hown hK hw 0 rfl rfl 0 (by decide) wmX5_setBase_m_setBase_0 (fun _ h9 => h9) rfl dX5_setBase_40 ?_
    refine lv_if_le (tgt := 48) hx hb dX5_setBase_43 (by decide) (fun c_43 => ?_) (fun c_43 => ?_)
    · have hpi : iN i < m.2.1.1 := mdIn_lt (by omega) (fun h0 => by rw [hv] at c_43; unfold mdSbT at c_43; rw [if_pos h0] at c_43; exact absurd c_43 (by decide))
      have hpj : iN j < m.2.1.1 := mdIn_lt (by omega) (fun h0 => by rw [hv] at c_43; unfold mdSbT at c_43; by_cases h1 : mdIn i 0 (nI m.2.1.1 - 1) = 0; (rw [if_pos h1] at c_43; exact absurd c_43 (by decide)); (rw [if_neg h1, if_pos h0] at c_43; exact absurd c_43 (by decide)))
      refine lv_aload_n hx hb dX5_setBase_48 rfl (lv_at hl 0 rfl) ?_
      refine lv_iconst (v := 1) hx hb dX5_setBase_49 (by decide) ?_
      refine r_put (ci := 5) (v := .int 1) (ty := .boolean) (C := RX5) (T := TX5) (N := 29) hx hb hts wiX5_setBase_m_setBase_X5 tyX5 tyX5_ok nmX5 hown hK hw 0 rfl rfl 14 (by decide) wmX5_setBase_m_setBase_1 (fun _ h9 => h9) rfl (by decide +kernel) (by rfl) (by rfl) (Nat.le_of_ble_eq_true rfl) dX5_setBase_50 (ws' := wMd G a (v, m.2.1, m.2.2.1, m.2.2.2.1, (1, m.2.2.2.2.1.2.1, m.2.2.2.2.1.2.2.1, m.2.2.2.2.1.2.2.2.1, m.2.2.2.2.1.2.2.2.2.1, m.2.2.2.2.1.2.2.2.2.2.1, m.2.2.2.2.1.2.2.2.2.2.2.1, m.2.2.2.2.1.2.2.2.2.2.2.2.1, m.2.2.2.2.1.2.2.2.2.2.2.2.2), m.2.2.2.2.2.1, m.2.2.2.2.2.2)) rfl (fun H locs hw => ?_)
      refine lv_aload_n hx hb dX5_setBase_53 rfl (lv_at hl 0 rfl) ?_
      refine lv_iload_n hx hb dX5_setBase_54 rfl (lv_at hl 1 rfl) ?_
      refine r_top (y := nI (iN i)) (nI_iN i) ?_
      refine r_put (ci := 5) (v := .int (nI (iN i))) (ty := .int) (C := RX5) (T := TX5) (N := 29) hx hb hts wiX5_setBase_m_setBase_X5 tyX5 tyX5_ok nmX5 hown hK hw 0 rfl rfl 15 (by decide) wmX5_setBase_m_setBase_2 (fun _ h9 => h9) rfl (by decide +kernel) rfl rfl (Nat.le_of_ble_eq_true rfl) dX5_setBase_55 (ws' := wMd G a (v, m.2.1, m.2.2.1, m.2.2.2.1, (1, iN i, m.2.2.2.2.1.2.2.1, m.2.2.2.2.1.2.2.2.1, m.2.2.2.2.1.2.2.2.2.1, m.2.2.2.2.1.2.2.2.2.2.1, m.2.2.2.2.1.2.2.2.2.2.2.1, m.2.2.2.2.1.2.2.2.2.2.2.2.1, m.2.2.2.2.1.2.2.2.2.2.2.2.2), m.2.2.2.2.2.1, m.2.2.2.2.2.2)) rfl (fun H locs hw => ?_)
      refine lv_aload_n hx hb dX5_setBase_58 rfl (lv_at hl 0 rfl) ?_
      refine lv_iload_n hx hb dX5_setBase_59 rfl (lv_at hl 2 rfl) ?_
      refine r_top (y := nI (iN j)) (nI_iN j) ?_
      refine r_put (ci := 5) (v := .int (nI (iN j))) (ty := .int) (C := RX5) (T := TX5) (N := 29) hx hb hts wiX5_setBase_m_setBase_X5 tyX5 tyX5_ok nmX5 hown hK hw 0 rfl rfl 16 (by decide) wmX5_setBase_m_setBase_3 (fun _ h9 => h9) rfl (by decide +kernel) rfl rfl (Nat.le_of_ble_eq_true rfl) dX5_setBase_60 (ws' := wMd G a (v, m.2.1, m.2.2.1, m.2.2.2.1, (1, iN i, iN j, m.2.2.2.2.1.2.2.2.1, m.2.2.2.2.1.2.2.2.2.1, m.2.2.2.2.1.2.2.2.2.2.1, m.2.2.2.2.1.2.2.2.2.2.2.1, m.2.2.2.2.1.2.2.2.2.2.2.2.1, m.2.2.2.2.1.2.2.2.2.2.2.2.2), m.2.2.2.2.2.1, m.2.2.2.2.2.2)) rfl (fun H locs hw => ?_)
      refine lv_aload_n hx hb dX5_setBase_63 rfl (lv_at hl 0 rfl) ?_
      refine lv_iload_n hx hb dX5_setBase_64 rfl (lv_at hl 3 rfl) ?_
      refine r_put (ci := 5) (v := .int h) (ty := .int) (C := RX5) (T := TX5) (N := 29) hx hb hts wiX5_setBase_m_setBase_X5 tyX5 tyX5_ok nmX5 hown hK hw 0 rfl rfl 17 (by decide) wmX5_setBase_m_setBase_4 (fun _ h9 => h9) rfl (by decide +kernel) rfl rfl (Nat.le_of_ble_eq_true rfl) dX5_setBase_65 (ws' := wMd G a (v, m.2.1, m.2.2.1, m.2.2.2.1, (1, iN i, iN j, h, m.2.2.2.2.1.2.2.2.2.1, m.2.2.2.2.1.2.2.2.2.2.1, m.2.2.2.2.1.2.2.2.2.2.2.1, m.2.2.2.2.1.2.2.2.2.2.2.2.1, m.2.2.2.2.1.2.2.2.2.2.2.2.2), m.2.2.2.2.2.1, m.2.2.2.2.2.2)) rfl (fun H locs hw => ?_)
      refine lv_aload_n hx hb dX5_setBase_68 rfl (lv_at hl 0 rfl) ?_
      have hwc : wW G A9 s9.heap (([] : va_W) ++ ((wMd G a (v, m.2.1, m.2.2.1, m.2.2.2.1, (1, iN i, iN j, h, m.2.2.2.2.1.2.2.2.2.1, m.2.2.2.2.1.2.2.2.2.2.1, m.2.2.2.2.1.2.2.2.2.2.2.1, m.2.2.2.2.1.2.2.2.2.2.2.2.1, m.2.2.2.2.1.2.2.2.2.2.2.2.2), m.2.2.2.2.2.1, m.2.2.2.2.2.2)) ++ ([] : va_W))) H locs := hw
      refine r_callv (u := ([] : va_W)) (w := wMd G a (v, m.2.1, m.2.2.1, m.2.2.2.1, (1, iN i, iN j, h, m.2.2.2.2.1.2.2.2.2.1, m.2.2.2.2.1.2.2.2.2.2.1, m.2.2.2.2.1.2.2.2.2.2.2.1, m.2.2.2.2.1.2.2.2.2.2.2.2.1, m.2.2.2.2.1.2.2.2.2.2.2.2.2), m.2.2.2.2.2.1, m.2.2.2.2.2.2)) (v := ([] : va_W)) (va_runV (As := []) (rest := []) ⟨hx, hb, hml, hown, hts⟩ (c_builds l G a (v, m.2.1, m.2.2.1, m.2.2.2.1, (1, iN i, iN j, h, m.2.2.2.2.1.2.2.2.2.1, m.2.2.2.2.1.2.2.2.2.2.1, m.2.2.2.2.1.2.2.2.2.2.2.1, m.2.2.2.2.1.2.2.2.2.2.2.2.1, m.2.2.2.2.1.2.2.2.2.2.2.2.2), m.2.2.2.2.2.1, m.2.2.2.2.2.2) (by first | assumption | omega | decide) (⟨show iN i ≤ 15 by omega, show iN j ≤ 15 by omega, hB.2.2⟩) H.size) (cwV 0 hts gX5_setBase_X5_builds rfl rfl rfl (by decide +kernel) ⟨Nat.le_of_ble_eq_true rfl, Nat.le_of_ble_eq_true rfl⟩) (r_preV (ci := 5) (q0 := 0) hK hwc rfl rfl rfl) rfl rfl hl.1 rfl (lv_room (Nat.le_of_ble_eq_true rfl)) dX5_setBase_69 ⟨Nat.le_of_ble_eq_true rfl, Nat.le_of_ble_eq_true rfl⟩) hwc hA rfl rfl (fun H locs hw => ?_)
      have hw : wW G A9 s9.heap (wMd G a (v, m.2.1, m.2.2.1, (mdSolve m.2.1 m.2.2.2.1), (1, iN i, iN j, h, m.2.2.2.2.1.2.2.2.2.1, m.2.2.2.2.1.2.2.2.2.2.1, m.2.2.2.2.1.2.2.2.2.2.2.1, m.2.2.2.2.1.2.2.2.2.2.2.2.1, m.2.2.2.2.1.2.2.2.2.2.2.2.2), (mdBuild m.2.1 (mdSolve m.2.1 m.2.2.2.1) (1, iN i, iN j, h, m.2.2.2.2.1.2.2.2.2.1, m.2.2.2.2.1.2.2.2.2.2.1, m.2.2.2.2.1.2.2.2.2.2.2.1, m.2.2.2.2.1.2.2.2.2.2.2.2.1, m.2.2.2.2.1.2.2.2.2.2.2.2.2) m.2.2.2.2.2.1), m.2.2.2.2.2.2)) H locs := hw
      refine lv_aload_n hx hb dX5_setBase_72 rfl (lv_at hl 0 rfl) ?_
      refine r_get (ci := 5) (v := .ref (a 18)) (C := RX5) (T := TX5) (N := 29) hx hb hts wiX5_setBase_m_setBase_X5 hown hK hw 0 rfl rfl 25 (by decide) wmX5_setBase_m_setBase_5 (fun _ h9 => h9) rfl dX5_setBase_73 ?_
      refine lv_bipush (v := 8) hx hb dX5_setBase_76 (by decide) ?_
      refine r_zald (v := ((mdBuild m.2.1 (mdSolve m.2.1 m.2.2.2.1) (1, iN i, iN j, h, m.2.2.2.2.1.2.2.2.2.1, m.2.2.2.2.1.2.2.2.2.2.1, m.2.2.2.2.1.2.2.2.2.2.2.1, m.2.2.2.2.1.2.2.2.2.2.2.2.1, m.2.2.2.2.1.2.2.2.2.2.2.2.2) m.2.2.2.2.2.1).2.2) 8) hx hb hK hw 18 rfl 8 rfl (by omega) (by decide) rfl dX5_setBase_78 ?_
      refine lv_if_ne (tgt := 86) hx hb dX5_setBase_79 (by decide) (fun c_79 => ?_) (fun c_79 => ?_)
      · refine lv_iconst (v := 0) hx hb dX5_setBase_86 (by decide) ?_
        exact m_zret hx hb hr hlocks hK hw (Nat.le_of_ble_eq_true rfl) (Nat.le_of_ble_eq_true rfl) dX5_setBase_87 (by rfl) (show (0 : Int32) = (mdSetB m i j h).1 by subst hv; simp only [mdSetB, if_pos c_43]; exact (if_neg c_79).symm) (show wMd G a (v, m.2.1, m.2.2.1, (mdSolve m.2.1 m.2.2.2.1), (1, iN i, iN j, h, m.2.2.2.2.1.2.2.2.2.1, m.2.2.2.2.1.2.2.2.2.2.1, m.2.2.2.2.1.2.2.2.2.2.2.1, m.2.2.2.2.1.2.2.2.2.2.2.2.1, m.2.2.2.2.1.2.2.2.2.2.2.2.2), (mdBuild m.2.1 (mdSolve m.2.1 m.2.2.2.1) (1, iN i, iN j, h, m.2.2.2.2.1.2.2.2.2.1, m.2.2.2.2.1.2.2.2.2.2.1, m.2.2.2.2.1.2.2.2.2.2.2.1, m.2.2.2.2.1.2.2.2.2.2.2.2.1, m.2.2.2.2.1.2.2.2.2.2.2.2.2) m.2.2.2.2.2.1), m.2.2.2.2.2.2) = wMd G a ((mdSetB m i j h).2) by subst hv; simp only [mdSetB, if_pos c_43]; first | done | rfl)
      · refine lv_iconst (v := 1) hx hb dX5_setBase_82 (by decide) ?_
        refine lv_goto (tgt := 87) hx hb dX5_setBase_83 (by decide) ?_
        exact m_zret hx hb hr hlocks hK hw (Nat.le_of_ble_eq_true rfl) (Nat.le_of_ble_eq_true rfl) dX5_setBase_87 (by rfl) (show (1 : Int32) = (mdSetB m i j h).1 by subst hv; simp only [mdSetB, if_pos c_43]; exact (if_pos c_79).symm) (show wMd G a (v, m.2.1, m.2.2.1, (mdSolve m.2.1 m.2.2.2.1), (1, iN i, iN j, h, m.2.2.2.2.1.2.2.2.2.1, m.2.2.2.2.1.2.2.2.2.2.1, m.2.2.2.2.1.2.2.2.2.2.2.1, m.2.2.2.2.1.2.2.2.2.2.2.2.1, m.2.2.2.2.1.2.2.2.2.2.2.2.2), (mdBuild m.2.1 (mdSolve m.2.1 m.2.2.2.1) (1, iN i, iN j, h, m.2.2.2.2.1.2.2.2.2.1, m.2.2.2.2.1.2.2.2.2.2.1, m.2.2.2.2.1.2.2.2.2.2.2.1, m.2.2.2.2.1.2.2.2.2.2.2.2.1, m.2.2.2.2.1.2.2.2.2.2.2.2.2) m.2.2.2.2.2.1), m.2.2.2.2.2.2) = wMd G a ((mdSetB m i j h).2) by subst hv; simp only [mdSetB, if_pos c_43]; first | done | rfl)
    · refine lv_iconst (v := 0) hx hb dX5_setBase_46 (by decide) ?_
      exact m_zret hx hb hr hlocks hK hw (Nat.le_of_ble_eq_true rfl) (Nat.le_of_ble_eq_true rfl) dX5_setBase_47 (by rfl) (show (0 : Int32) = (mdSetB m i j h).1 by subst hv; simp only [mdSetB, if_neg c_43]) (show wMd G a (v, m.2.1, m.2.2.1, m.2.2.2.1, m.2.2.2.2.1, m.2.2.2.2.2.1, m.2.2.2.2.2.2) = wMd G a ((mdSetB m i j h).2) by subst hv; simp only [mdSetB, if_neg c_43]; first | done | rfl)
  refine lv_aload_n hx hb dX5_setBase_0 rfl (lv_at hl 0 rfl) ?_
  refine lv_aload_n hx hb dX5_setBase_1 rfl (lv_at hl 0 rfl) ?_
  refine lv_iload_n hx hb dX5_setBase_2 rfl (lv_at hl 1 rfl) ?_
  have hwc : wW G A9 s9.heap (([] : va_W) ++ ((wMd G a m) ++ ([] : va_W))) H locs := hw
  refine r_calli (res := (mdIn i 0 (nI m.2.1.1 - 1))) (u := ([] : va_W)) (w := wMd G a m) (v := ([] : va_W)) (va_runV (As := [.int i]) (rest := [.ref (a 0)]) ⟨hx, hb, hml, hown, hts⟩ (c_ispoint l G a m i H.size) (cwV 1 hts gX5_setBase_X5_isPoint rfl rfl rfl (by decide +kernel) ⟨Nat.le_of_ble_eq_true rfl, Nat.le_of_ble_eq_true rfl⟩) (r_preV (ci := 5) (q0 := 0) hK hwc rfl rfl rfl) rfl rfl hl.1 rfl (lv_room (Nat.le_of_ble_eq_true rfl)) dX5_setBase_3 ⟨Nat.le_of_ble_eq_true rfl, Nat.le_of_ble_eq_true rfl⟩) hwc hA rfl rfl (fun H locs hw => ?_)
  have hw : wW G A9 s9.heap (wMd G a m) H locs := hw
  refine lv_if_eq (tgt := 17) hx hb dX5_setBase_6 (by decide) (fun c_6 => ?_) (fun c_6 => ?_)
  · refine lv_iconst (v := 1) hx hb dX5_setBase_17 (by decide) ?_
    refine lv_goto (tgt := 36) hx hb dX5_setBase_18 (by decide) ?_
    exact join_36 1 (by simp only [mdSbT, if_pos c_6]) _ _ _ hw (lv_sub hl [0, 1, 2, 3] rfl)
  · refine lv_aload_n hx hb dX5_setBase_9 rfl (lv_at hl 0 rfl) ?_
    refine lv_iload_n hx hb dX5_setBase_10 rfl (lv_at hl 2 rfl) ?_
    have hwc : wW G A9 s9.heap (([] : va_W) ++ ((wMd G a m) ++ ([] : va_W))) H locs := hw
    refine r_calli (res := (mdIn j 0 (nI m.2.1.1 - 1))) (u := ([] : va_W)) (w := wMd G a m) (v := ([] : va_W)) (va_runV (As := [.int j]) (rest := [.ref (a 0)]) ⟨hx, hb, hml, hown, hts⟩ (c_ispoint l G a m j H.size) (cwV 1 hts gX5_setBase_X5_isPoint rfl rfl rfl (by decide +kernel) ⟨Nat.le_of_ble_eq_true rfl, Nat.le_of_ble_eq_true rfl⟩) (r_preV (ci := 5) (q0 := 0) hK hwc rfl rfl rfl) rfl rfl hl.1 rfl (lv_room (Nat.le_of_ble_eq_true rfl)) dX5_setBase_11 ⟨Nat.le_of_ble_eq_true rfl, Nat.le_of_ble_eq_true rfl⟩) hwc hA rfl rfl (fun H locs hw => ?_)
    have hw : wW G A9 s9.heap (wMd G a m) H locs := hw
    refine lv_if_ne (tgt := 21) hx hb dX5_setBase_14 (by decide) (fun c_14 => ?_) (fun c_14 => ?_)
    · refine lv_iload_n hx hb dX5_setBase_21 rfl (lv_at hl 3 rfl) ?_
      refine lv_iconst (v := 1) hx hb dX5_setBase_22 (by decide) ?_
      refine lv_bipush (v := 50) hx hb dX5_setBase_23 (by decide) ?_
      have hwc : wW G A9 s9.heap (([] : va_W) ++ (([] : va_W) ++ (wMd G a m))) H locs := hw
      refine r_calli (res := (mdIn h 1 50)) (u := ([] : va_W)) (w := ([] : va_W)) (v := wMd G a m) (va_runS (As := [.int h, .int 1, .int 50]) (rest := [.ref (a 0)]) ⟨hx, hb, hml, hown, hts⟩ (c_mdin l G h 1 50 H.size) (va_cwS 3 hts gX5_setBase_X5_in rfl rfl rfl (by decide +kernel) ⟨Nat.le_of_ble_eq_true rfl, Nat.le_of_ble_eq_true rfl⟩) (r_preS hK hwc) rfl rfl hl.1 rfl (lv_room (Nat.le_of_ble_eq_true rfl)) dX5_setBase_25 ⟨Nat.le_of_ble_eq_true rfl, Nat.le_of_ble_eq_true rfl⟩) hwc hA rfl rfl (fun H locs hw => ?_)
      have hw : wW G A9 s9.heap (wMd G a m) H locs := hw
      refine lv_if_eq (tgt := 35) hx hb dX5_setBase_28 (by decide) (fun c_28 => ?_) (fun c_28 => ?_)
      · refine lv_iconst (v := 2) hx hb dX5_setBase_35 (by decide) ?_
        exact join_36 2 (by simp only [mdSbT, if_neg c_6, if_neg c_14, if_pos c_28]) _ _ _ hw (lv_sub hl [0, 1, 2, 3] rfl)
      · refine lv_iconst (v := 0) hx hb dX5_setBase_31 (by decide) ?_
        refine lv_goto (tgt := 36) hx hb dX5_setBase_32 (by decide) ?_
        exact join_36 0 (by simp only [mdSbT, if_neg c_6, if_neg c_14, if_neg c_28]) _ _ _ hw (lv_sub hl [0, 1, 2, 3] rfl)
    · refine lv_iconst (v := 1) hx hb dX5_setBase_17 (by decide) ?_
      refine lv_goto (tgt := 36) hx hb dX5_setBase_18 (by decide) ?_
      exact join_36 1 (by simp only [mdSbT, if_neg c_6, if_pos c_14]) _ _ _ hw (lv_sub hl [0, 1, 2, 3] rfl)

theorem wiX5_pocket_m_pocket_X5 : ∀ w ∈ wsX50, w ∈ wsX5_pocket := by decide +kernel
theorem wmX5_pocket_m_pocket_0 : Cond.fieldLink RX5 74 "PartSketchModel" "thrown" "I" ∈ wsX5_pocket := by decide +kernel
theorem wmX5_pocket_m_pocket_1 : Cond.fieldLink RX5 134 "PartSketchModel" "pockets" "I" ∈ wsX5_pocket := by decide +kernel
theorem wmX5_pocket_m_pocket_2 : Cond.fieldLink RX5 117 "PartSketchModel" "isBase" "Z" ∈ wsX5_pocket := by decide +kernel
theorem wmX5_pocket_m_pocket_3 : Cond.fieldLink RX5 44 "PartSketchModel" "corner" "[I" ∈ wsX5_pocket := by decide +kernel
theorem wmX5_pocket_m_pocket_4 : Cond.fieldLink RX5 47 "PartSketchModel" "against" "[I" ∈ wsX5_pocket := by decide +kernel
theorem wmX5_pocket_m_pocket_5 : Cond.fieldLink RX5 50 "PartSketchModel" "depth" "[I" ∈ wsX5_pocket := by decide +kernel
theorem wmX5_pocket_m_pocket_6 : Cond.fieldLink RX5 53 "PartSketchModel" "within" "[I" ∈ wsX5_pocket := by decide +kernel
set_option maxHeartbeats 4000000 in
set_option maxRecDepth 100000 in
/-- pocket -/
theorem c_m_pocket (l : Launch) (G : gT) (a : aMd) (m : tMd) (i : Int32) (j : Int32) (d : Int32) (q : Int32) (hnp : m.2.1.1 ≤ 16) (hB : mdBok m.2.2.2.2.1) (sz : Nat) : MI l yX5_pocket wsX5_pocket ({ frames := 2, cells := 0, slots := 0, locals := 43 }) G [.ref (a 0), .int i, .int j, .int d, .int q] (wMd G a m) (wMd G a ((mdPocket m i j d q).2)) sz ((mdPocket m i j d q).1) 0 0 := by
  refine m_of (Qc := fun A9 => (va_Qi (fun (r9 : Int32) (_ : Unit) => r9 = ((mdPocket m i j d q).1)) (fun _ t9 => wPost G A9 (wMd G a ((mdPocket m i j d q).2)) t9) A9)) (cc := cX5_pocket) (maxL := 5) (ret := (some .int)) (by decide) rfl (Nat.le_of_ble_eq_true rfl) ?_
  intro p9 e9 s9 m9 A9 be9 mt9 c9 H locs ls hx hb hr hts hown hlocks hin hml hK hA hw hl
  have hl : lv_has ls 5 [(0, .ref (a 0)), (1, .int i), (2, .int j), (3, .int d), (4, .int q)] := hl
  refine lv_aload_n hx hb dX5_pocket_0 rfl (lv_at hl 0 rfl) ?_
  refine lv_iconst (v := 0) hx hb dX5_pocket_1 (by decide) ?_
  refine r_put (ci := 5) (v := .int 0) (ty := .int) (C := RX5) (T := TX5) (N := 29) hx hb hts wiX5_pocket_m_pocket_X5 tyX5 tyX5_ok nmX5 hown hK hw 0 rfl rfl 0 (by decide) wmX5_pocket_m_pocket_0 (fun _ h9 => h9) rfl (by decide +kernel) rfl rfl (Nat.le_of_ble_eq_true rfl) dX5_pocket_2 (ws' := wMd G a (0, m.2.1, m.2.2.1, m.2.2.2.1, m.2.2.2.2.1, m.2.2.2.2.2.1, m.2.2.2.2.2.2)) rfl (fun H locs hw => ?_)
  refine lv_aload_n hx hb dX5_pocket_5 rfl (lv_at hl 0 rfl) ?_
  refine lv_iload_n hx hb dX5_pocket_6 rfl (lv_at hl 1 rfl) ?_
  have hwc : wW G A9 s9.heap (([] : va_W) ++ ((wMd G a (0, m.2.1, m.2.2.1, m.2.2.2.1, m.2.2.2.2.1, m.2.2.2.2.2.1, m.2.2.2.2.2.2)) ++ ([] : va_W))) H locs := hw
  refine r_calli (res := (mdIn i 0 (nI m.2.1.1 - 1))) (u := ([] : va_W)) (w := wMd G a (0, m.2.1, m.2.2.1, m.2.2.2.1, m.2.2.2.2.1, m.2.2.2.2.2.1, m.2.2.2.2.2.2)) (v := ([] : va_W)) (va_runV (As := [.int i]) (rest := []) ⟨hx, hb, hml, hown, hts⟩ (c_ispoint l G a (0, m.2.1, m.2.2.1, m.2.2.2.1, m.2.2.2.2.1, m.2.2.2.2.2.1, m.2.2.2.2.2.2) i H.size) (cwV 1 hts gX5_pocket_X5_isPoint rfl rfl rfl (by decide +kernel) ⟨Nat.le_of_ble_eq_true rfl, Nat.le_of_ble_eq_true rfl⟩) (r_preV (ci := 5) (q0 := 0) hK hwc rfl rfl rfl) rfl rfl hl.1 rfl (lv_room (Nat.le_of_ble_eq_true rfl)) dX5_pocket_7 ⟨Nat.le_of_ble_eq_true rfl, Nat.le_of_ble_eq_true rfl⟩) hwc hA rfl rfl (fun H locs hw => ?_)
  have hw : wW G A9 s9.heap (wMd G a (0, m.2.1, m.2.2.1, m.2.2.2.1, m.2.2.2.2.1, m.2.2.2.2.2.1, m.2.2.2.2.2.2)) H locs := hw
  refine lv_if_eq (tgt := 36) hx hb dX5_pocket_10 (by decide) (fun c_10 => ?_) (fun c_10 => ?_)
  · refine lv_aload_n hx hb dX5_pocket_36 rfl (lv_at hl 0 rfl) ?_
    refine lv_iconst (v := 1) hx hb dX5_pocket_37 (by decide) ?_
    have hwc : wW G A9 s9.heap (([] : va_W) ++ ((wMd G a (0, m.2.1, m.2.2.1, m.2.2.2.1, m.2.2.2.2.1, m.2.2.2.2.2.1, m.2.2.2.2.2.2)) ++ ([] : va_W))) H locs := hw
    refine r_calli (res := 0) (u := ([] : va_W)) (w := wMd G a (0, m.2.1, m.2.2.1, m.2.2.2.1, m.2.2.2.2.1, m.2.2.2.2.2.1, m.2.2.2.2.2.2)) (v := ([] : va_W)) (va_runV (As := [.int 1]) (rest := []) ⟨hx, hb, hml, hown, hts⟩ (c_refuses l G a (0, m.2.1, m.2.2.1, m.2.2.2.1, m.2.2.2.2.1, m.2.2.2.2.2.1, m.2.2.2.2.2.2) 1 H.size) (cwV 1 hts gX5_pocket_X5_refuses rfl rfl rfl (by decide +kernel) ⟨Nat.le_of_ble_eq_true rfl, Nat.le_of_ble_eq_true rfl⟩) (r_preV (ci := 5) (q0 := 0) hK hwc rfl rfl rfl) rfl rfl hl.1 rfl (lv_room (Nat.le_of_ble_eq_true rfl)) dX5_pocket_38 ⟨Nat.le_of_ble_eq_true rfl, Nat.le_of_ble_eq_true rfl⟩) hwc hA rfl rfl (fun H locs hw => ?_)
    have hw : wW G A9 s9.heap (wMd G a (1, m.2.1, m.2.2.1, m.2.2.2.1, m.2.2.2.2.1, m.2.2.2.2.2.1, m.2.2.2.2.2.2)) H locs := hw
    exact m_iret hx hb hr hlocks hK hw (Nat.le_of_ble_eq_true rfl) (Nat.le_of_ble_eq_true rfl) dX5_pocket_41 (show (0 : Int32) = (mdPocket m i j d q).1 by first | rfl | (simp only [mdPocket, if_pos c_10]; first | done | rfl)) (show wMd G a (1, m.2.1, m.2.2.1, m.2.2.2.1, m.2.2.2.2.1, m.2.2.2.2.2.1, m.2.2.2.2.2.2) = wMd G a ((mdPocket m i j d q).2) by first | rfl | (simp only [mdPocket, if_pos c_10]; first | done | rfl))
  · refine lv_aload_n hx hb dX5_pocket_13 rfl (lv_at hl 0 rfl) ?_
    refine lv_iload_n hx hb dX5_pocket_14 rfl (lv_at hl 2 rfl) ?_
    have hwc : wW G A9 s9.heap (([] : va_W) ++ ((wMd G a (0, m.2.1, m.2.2.1, m.2.2.2.1, m.2.2.2.2.1, m.2.2.2.2.2.1, m.2.2.2.2.2.2)) ++ ([] : va_W))) H locs := hw
    refine r_calli (res := (mdIn j 0 (nI m.2.1.1 - 1))) (u := ([] : va_W)) (w := wMd G a (0, m.2.1, m.2.2.1, m.2.2.2.1, m.2.2.2.2.1, m.2.2.2.2.2.1, m.2.2.2.2.2.2)) (v := ([] : va_W)) (va_runV (As := [.int j]) (rest := []) ⟨hx, hb, hml, hown, hts⟩ (c_ispoint l G a (0, m.2.1, m.2.2.1, m.2.2.2.1, m.2.2.2.2.1, m.2.2.2.2.2.1, m.2.2.2.2.2.2) j H.size) (cwV 1 hts gX5_pocket_X5_isPoint rfl rfl rfl (by decide +kernel) ⟨Nat.le_of_ble_eq_true rfl, Nat.le_of_ble_eq_true rfl⟩) (r_preV (ci := 5) (q0 := 0) hK hwc rfl rfl rfl) rfl rfl hl.1 rfl (lv_room (Nat.le_of_ble_eq_true rfl)) dX5_pocket_15 ⟨Nat.le_of_ble_eq_true rfl, Nat.le_of_ble_eq_true rfl⟩) hwc hA rfl rfl (fun H locs hw => ?_)
    have hw : wW G A9 s9.heap (wMd G a (0, m.2.1, m.2.2.1, m.2.2.2.1, m.2.2.2.2.1, m.2.2.2.2.2.1, m.2.2.2.2.2.2)) H locs := hw
    refine lv_if_eq (tgt := 36) hx hb dX5_pocket_18 (by decide) (fun c_18 => ?_) (fun c_18 => ?_)
    · refine lv_aload_n hx hb dX5_pocket_36 rfl (lv_at hl 0 rfl) ?_
      refine lv_iconst (v := 1) hx hb dX5_pocket_37 (by decide) ?_
      have hwc : wW G A9 s9.heap (([] : va_W) ++ ((wMd G a (0, m.2.1, m.2.2.1, m.2.2.2.1, m.2.2.2.2.1, m.2.2.2.2.2.1, m.2.2.2.2.2.2)) ++ ([] : va_W))) H locs := hw
      refine r_calli (res := 0) (u := ([] : va_W)) (w := wMd G a (0, m.2.1, m.2.2.1, m.2.2.2.1, m.2.2.2.2.1, m.2.2.2.2.2.1, m.2.2.2.2.2.2)) (v := ([] : va_W)) (va_runV (As := [.int 1]) (rest := []) ⟨hx, hb, hml, hown, hts⟩ (c_refuses l G a (0, m.2.1, m.2.2.1, m.2.2.2.1, m.2.2.2.2.1, m.2.2.2.2.2.1, m.2.2.2.2.2.2) 1 H.size) (cwV 1 hts gX5_pocket_X5_refuses rfl rfl rfl (by decide +kernel) ⟨Nat.le_of_ble_eq_true rfl, Nat.le_of_ble_eq_true rfl⟩) (r_preV (ci := 5) (q0 := 0) hK hwc rfl rfl rfl) rfl rfl hl.1 rfl (lv_room (Nat.le_of_ble_eq_true rfl)) dX5_pocket_38 ⟨Nat.le_of_ble_eq_true rfl, Nat.le_of_ble_eq_true rfl⟩) hwc hA rfl rfl (fun H locs hw => ?_)
      have hw : wW G A9 s9.heap (wMd G a (1, m.2.1, m.2.2.1, m.2.2.2.1, m.2.2.2.2.1, m.2.2.2.2.2.1, m.2.2.2.2.2.2)) H locs := hw
      exact m_iret hx hb hr hlocks hK hw (Nat.le_of_ble_eq_true rfl) (Nat.le_of_ble_eq_true rfl) dX5_pocket_41 (show (0 : Int32) = (mdPocket m i j d q).1 by first | rfl | (simp only [mdPocket, if_neg c_10, if_pos c_18]; first | done | rfl)) (show wMd G a (1, m.2.1, m.2.2.1, m.2.2.2.1, m.2.2.2.2.1, m.2.2.2.2.2.1, m.2.2.2.2.2.2) = wMd G a ((mdPocket m i j d q).2) by first | rfl | (simp only [mdPocket, if_neg c_10, if_pos c_18]; first | done | rfl))
    · refine lv_iload hx hb dX5_pocket_21 (lv_at hl 4 rfl) ?_
      refine lv_iconst (v := (-1)) hx hb dX5_pocket_23 (by decide) ?_
      refine lv_aload_n hx hb dX5_pocket_24 rfl (lv_at hl 0 rfl) ?_
      refine r_get (ci := 5) (v := .int (nI m.2.2.2.2.1.2.2.2.2.1)) (C := RX5) (T := TX5) (N := 29) hx hb hts wiX5_pocket_m_pocket_X5 hown hK hw 0 rfl rfl 18 (by decide) wmX5_pocket_m_pocket_1 (fun _ h9 => h9) rfl dX5_pocket_25 ?_
      refine lv_iconst (v := 1) hx hb dX5_pocket_28 (by decide) ?_
      refine lv_isub hx hb dX5_pocket_29 ?_
      have hwc : wW G A9 s9.heap (([] : va_W) ++ (([] : va_W) ++ (wMd G a (0, m.2.1, m.2.2.1, m.2.2.2.1, m.2.2.2.2.1, m.2.2.2.2.2.1, m.2.2.2.2.2.2)))) H locs := hw
      refine r_calli (res := (mdIn q (-1) ((nI m.2.2.2.2.1.2.2.2.2.1) - 1))) (u := ([] : va_W)) (w := ([] : va_W)) (v := wMd G a (0, m.2.1, m.2.2.1, m.2.2.2.1, m.2.2.2.2.1, m.2.2.2.2.2.1, m.2.2.2.2.2.2)) (va_runS (As := [.int q, .int (-1), .int ((nI m.2.2.2.2.1.2.2.2.2.1) - 1)]) (rest := []) ⟨hx, hb, hml, hown, hts⟩ (c_mdin l G q (-1) ((nI m.2.2.2.2.1.2.2.2.2.1) - 1) H.size) (va_cwS 3 hts gX5_pocket_X5_in rfl rfl rfl (by decide +kernel) ⟨Nat.le_of_ble_eq_true rfl, Nat.le_of_ble_eq_true rfl⟩) (r_preS hK hwc) rfl rfl hl.1 rfl (lv_room (Nat.le_of_ble_eq_true rfl)) dX5_pocket_30 ⟨Nat.le_of_ble_eq_true rfl, Nat.le_of_ble_eq_true rfl⟩) hwc hA rfl rfl (fun H locs hw => ?_)
      have hw : wW G A9 s9.heap (wMd G a (0, m.2.1, m.2.2.1, m.2.2.2.1, m.2.2.2.2.1, m.2.2.2.2.2.1, m.2.2.2.2.2.2)) H locs := hw
      refine lv_if_ne (tgt := 42) hx hb dX5_pocket_33 (by decide) (fun c_33 => ?_) (fun c_33 => ?_)
      · refine lv_iload_n hx hb dX5_pocket_42 rfl (lv_at hl 3 rfl) ?_
        refine lv_iconst (v := 1) hx hb dX5_pocket_43 (by decide) ?_
        refine lv_bipush (v := 50) hx hb dX5_pocket_44 (by decide) ?_
        have hwc : wW G A9 s9.heap (([] : va_W) ++ (([] : va_W) ++ (wMd G a (0, m.2.1, m.2.2.1, m.2.2.2.1, m.2.2.2.2.1, m.2.2.2.2.2.1, m.2.2.2.2.2.2)))) H locs := hw
        refine r_calli (res := (mdIn d 1 50)) (u := ([] : va_W)) (w := ([] : va_W)) (v := wMd G a (0, m.2.1, m.2.2.1, m.2.2.2.1, m.2.2.2.2.1, m.2.2.2.2.2.1, m.2.2.2.2.2.2)) (va_runS (As := [.int d, .int 1, .int 50]) (rest := []) ⟨hx, hb, hml, hown, hts⟩ (c_mdin l G d 1 50 H.size) (va_cwS 3 hts gX5_pocket_X5_in rfl rfl rfl (by decide +kernel) ⟨Nat.le_of_ble_eq_true rfl, Nat.le_of_ble_eq_true rfl⟩) (r_preS hK hwc) rfl rfl hl.1 rfl (lv_room (Nat.le_of_ble_eq_true rfl)) dX5_pocket_46 ⟨Nat.le_of_ble_eq_true rfl, Nat.le_of_ble_eq_true rfl⟩) hwc hA rfl rfl (fun H locs hw => ?_)
        have hw : wW G A9 s9.heap (wMd G a (0, m.2.1, m.2.2.1, m.2.2.2.1, m.2.2.2.2.1, m.2.2.2.2.2.1, m.2.2.2.2.2.2)) H locs := hw
        refine lv_if_ne (tgt := 58) hx hb dX5_pocket_49 (by decide) (fun c_49 => ?_) (fun c_49 => ?_)
        · refine lv_aload_n hx hb dX5_pocket_58 rfl (lv_at hl 0 rfl) ?_
          refine r_get (ci := 5) (v := .int m.2.2.2.2.1.1) (C := RX5) (T := TX5) (N := 29) hx hb hts wiX5_pocket_m_pocket_X5 hown hK hw 0 rfl rfl 14 (by decide) wmX5_pocket_m_pocket_2 (fun _ h9 => h9) rfl dX5_pocket_59 ?_
          refine lv_if_eq (tgt := 74) hx hb dX5_pocket_62 (by decide) (fun c_62 => ?_) (fun c_62 => ?_)
          · refine lv_aload_n hx hb dX5_pocket_74 rfl (lv_at hl 0 rfl) ?_
            refine lv_iconst (v := 3) hx hb dX5_pocket_75 (by decide) ?_
            have hwc : wW G A9 s9.heap (([] : va_W) ++ ((wMd G a (0, m.2.1, m.2.2.1, m.2.2.2.1, m.2.2.2.2.1, m.2.2.2.2.2.1, m.2.2.2.2.2.2)) ++ ([] : va_W))) H locs := hw
            refine r_calli (res := 0) (u := ([] : va_W)) (w := wMd G a (0, m.2.1, m.2.2.1, m.2.2.2.1, m.2.2.2.2.1, m.2.2.2.2.2.1, m.2.2.2.2.2.2)) (v := ([] : va_W)) (va_runV (As := [.int 3]) (rest := []) ⟨hx, hb, hml, hown, hts⟩ (c_refuses l G a (0, m.2.1, m.2.2.1, m.2.2.2.1, m.2.2.2.2.1, m.2.2.2.2.2.1, m.2.2.2.2.2.2) 3 H.size) (cwV 1 hts gX5_pocket_X5_refuses rfl rfl rfl (by decide +kernel) ⟨Nat.le_of_ble_eq_true rfl, Nat.le_of_ble_eq_true rfl⟩) (r_preV (ci := 5) (q0 := 0) hK hwc rfl rfl rfl) rfl rfl hl.1 rfl (lv_room (Nat.le_of_ble_eq_true rfl)) dX5_pocket_76 ⟨Nat.le_of_ble_eq_true rfl, Nat.le_of_ble_eq_true rfl⟩) hwc hA rfl rfl (fun H locs hw => ?_)
            have hw : wW G A9 s9.heap (wMd G a (3, m.2.1, m.2.2.1, m.2.2.2.1, m.2.2.2.2.1, m.2.2.2.2.2.1, m.2.2.2.2.2.2)) H locs := hw
            exact m_iret hx hb hr hlocks hK hw (Nat.le_of_ble_eq_true rfl) (Nat.le_of_ble_eq_true rfl) dX5_pocket_79 (show (0 : Int32) = (mdPocket m i j d q).1 by first | rfl | (simp only [mdPocket, if_neg c_10, if_neg c_18, if_neg c_33, if_neg c_49, if_pos c_62]; first | done | rfl)) (show wMd G a (3, m.2.1, m.2.2.1, m.2.2.2.1, m.2.2.2.2.1, m.2.2.2.2.2.1, m.2.2.2.2.2.2) = wMd G a ((mdPocket m i j d q).2) by first | rfl | (simp only [mdPocket, if_neg c_10, if_neg c_18, if_neg c_33, if_neg c_49, if_pos c_62]; first | done | rfl))
          · refine lv_aload_n hx hb dX5_pocket_65 rfl (lv_at hl 0 rfl) ?_
            refine r_get (ci := 5) (v := .int (nI m.2.2.2.2.1.2.2.2.2.1)) (C := RX5) (T := TX5) (N := 29) hx hb hts wiX5_pocket_m_pocket_X5 hown hK hw 0 rfl rfl 18 (by decide) wmX5_pocket_m_pocket_1 (fun _ h9 => h9) rfl dX5_pocket_66 ?_
            refine lv_bipush (v := 8) hx hb dX5_pocket_69 (by decide) ?_
            refine lv_icmp_ne (tgt := 80) hx hb dX5_pocket_71 (by decide) (fun c_71 => ?_) (fun c_71 => ?_)
            · have hlt : m.2.2.2.2.1.2.2.2.2.1 < 8 := by have h : ¬ m.2.2.2.2.1.2.2.2.2.1 = 8 := fun h => c_71 (by rw [h]; rfl); have h8 := hB.2.2.1; omega
              refine lv_aload_n hx hb dX5_pocket_80 rfl (lv_at hl 0 rfl) ?_
              refine r_get (ci := 5) (v := .ref (a 12)) (C := RX5) (T := TX5) (N := 29) hx hb hts wiX5_pocket_m_pocket_X5 hown hK hw 0 rfl rfl 19 (by decide) wmX5_pocket_m_pocket_3 (fun _ h9 => h9) rfl dX5_pocket_81 ?_
              refine lv_aload_n hx hb dX5_pocket_84 rfl (lv_at hl 0 rfl) ?_
              refine r_get (ci := 5) (v := .int (nI m.2.2.2.2.1.2.2.2.2.1)) (C := RX5) (T := TX5) (N := 29) hx hb hts wiX5_pocket_m_pocket_X5 hown hK hw 0 rfl rfl 18 (by decide) wmX5_pocket_m_pocket_1 (fun _ h9 => h9) rfl dX5_pocket_85 ?_
              refine lv_iload_n hx hb dX5_pocket_88 rfl (lv_at hl 1 rfl) ?_
              refine r_top (y := nI (iN i)) (nI_iN i) ?_
              refine r_iast hx hb hK hw 12 rfl m.2.2.2.2.1.2.2.2.2.1 rfl (by omega) (by decide) dX5_pocket_89 (ws' := wMd G a (0, m.2.1, m.2.2.1, m.2.2.2.1, (m.2.2.2.2.1.1, m.2.2.2.2.1.2.1, m.2.2.2.2.1.2.2.1, m.2.2.2.2.1.2.2.2.1, m.2.2.2.2.1.2.2.2.2.1, (updN m.2.2.2.2.1.2.2.2.2.2.1 m.2.2.2.2.1.2.2.2.2.1 (iN i)), m.2.2.2.2.1.2.2.2.2.2.2.1, m.2.2.2.2.1.2.2.2.2.2.2.2.1, m.2.2.2.2.1.2.2.2.2.2.2.2.2), m.2.2.2.2.2.1, m.2.2.2.2.2.2)) (by rw [upd_nI]; rfl) (fun H locs hw => ?_)
              refine lv_aload_n hx hb dX5_pocket_90 rfl (lv_at hl 0 rfl) ?_
              refine r_get (ci := 5) (v := .ref (a 13)) (C := RX5) (T := TX5) (N := 29) hx hb hts wiX5_pocket_m_pocket_X5 hown hK hw 0 rfl rfl 20 (by decide) wmX5_pocket_m_pocket_4 (fun _ h9 => h9) rfl dX5_pocket_91 ?_
              refine lv_aload_n hx hb dX5_pocket_94 rfl (lv_at hl 0 rfl) ?_
              refine r_get (ci := 5) (v := .int (nI m.2.2.2.2.1.2.2.2.2.1)) (C := RX5) (T := TX5) (N := 29) hx hb hts wiX5_pocket_m_pocket_X5 hown hK hw 0 rfl rfl 18 (by decide) wmX5_pocket_m_pocket_1 (fun _ h9 => h9) rfl dX5_pocket_95 ?_
              refine lv_iload_n hx hb dX5_pocket_98 rfl (lv_at hl 2 rfl) ?_
              refine r_top (y := nI (iN j)) (nI_iN j) ?_
              refine r_iast hx hb hK hw 13 rfl m.2.2.2.2.1.2.2.2.2.1 rfl (by omega) (by decide) dX5_pocket_99 (ws' := wMd G a (0, m.2.1, m.2.2.1, m.2.2.2.1, (m.2.2.2.2.1.1, m.2.2.2.2.1.2.1, m.2.2.2.2.1.2.2.1, m.2.2.2.2.1.2.2.2.1, m.2.2.2.2.1.2.2.2.2.1, (updN m.2.2.2.2.1.2.2.2.2.2.1 m.2.2.2.2.1.2.2.2.2.1 (iN i)), (updN m.2.2.2.2.1.2.2.2.2.2.2.1 m.2.2.2.2.1.2.2.2.2.1 (iN j)), m.2.2.2.2.1.2.2.2.2.2.2.2.1, m.2.2.2.2.1.2.2.2.2.2.2.2.2), m.2.2.2.2.2.1, m.2.2.2.2.2.2)) (by rw [upd_nI]; rfl) (fun H locs hw => ?_)
              refine lv_aload_n hx hb dX5_pocket_100 rfl (lv_at hl 0 rfl) ?_
              refine r_get (ci := 5) (v := .ref (a 14)) (C := RX5) (T := TX5) (N := 29) hx hb hts wiX5_pocket_m_pocket_X5 hown hK hw 0 rfl rfl 21 (by decide) wmX5_pocket_m_pocket_5 (fun _ h9 => h9) rfl dX5_pocket_101 ?_
              refine lv_aload_n hx hb dX5_pocket_104 rfl (lv_at hl 0 rfl) ?_
              refine r_get (ci := 5) (v := .int (nI m.2.2.2.2.1.2.2.2.2.1)) (C := RX5) (T := TX5) (N := 29) hx hb hts wiX5_pocket_m_pocket_X5 hown hK hw 0 rfl rfl 18 (by decide) wmX5_pocket_m_pocket_1 (fun _ h9 => h9) rfl dX5_pocket_105 ?_
              refine lv_iload_n hx hb dX5_pocket_108 rfl (lv_at hl 3 rfl) ?_
              refine r_iast hx hb hK hw 14 rfl m.2.2.2.2.1.2.2.2.2.1 rfl (by omega) (by decide) dX5_pocket_109 (ws' := wMd G a (0, m.2.1, m.2.2.1, m.2.2.2.1, (m.2.2.2.2.1.1, m.2.2.2.2.1.2.1, m.2.2.2.2.1.2.2.1, m.2.2.2.2.1.2.2.2.1, m.2.2.2.2.1.2.2.2.2.1, (updN m.2.2.2.2.1.2.2.2.2.2.1 m.2.2.2.2.1.2.2.2.2.1 (iN i)), (updN m.2.2.2.2.1.2.2.2.2.2.2.1 m.2.2.2.2.1.2.2.2.2.1 (iN j)), (upd m.2.2.2.2.1.2.2.2.2.2.2.2.1 m.2.2.2.2.1.2.2.2.2.1 d), m.2.2.2.2.1.2.2.2.2.2.2.2.2), m.2.2.2.2.2.1, m.2.2.2.2.2.2)) rfl (fun H locs hw => ?_)
              refine lv_aload_n hx hb dX5_pocket_110 rfl (lv_at hl 0 rfl) ?_
              refine r_get (ci := 5) (v := .ref (a 15)) (C := RX5) (T := TX5) (N := 29) hx hb hts wiX5_pocket_m_pocket_X5 hown hK hw 0 rfl rfl 22 (by decide) wmX5_pocket_m_pocket_6 (fun _ h9 => h9) rfl dX5_pocket_111 ?_
              refine lv_aload_n hx hb dX5_pocket_114 rfl (lv_at hl 0 rfl) ?_
              refine r_get (ci := 5) (v := .int (nI m.2.2.2.2.1.2.2.2.2.1)) (C := RX5) (T := TX5) (N := 29) hx hb hts wiX5_pocket_m_pocket_X5 hown hK hw 0 rfl rfl 18 (by decide) wmX5_pocket_m_pocket_1 (fun _ h9 => h9) rfl dX5_pocket_115 ?_
              refine lv_iload hx hb dX5_pocket_118 (lv_at hl 4 rfl) ?_
              refine r_iast hx hb hK hw 15 rfl m.2.2.2.2.1.2.2.2.2.1 rfl (by omega) (by decide) dX5_pocket_120 (ws' := wMd G a (0, m.2.1, m.2.2.1, m.2.2.2.1, (m.2.2.2.2.1.1, m.2.2.2.2.1.2.1, m.2.2.2.2.1.2.2.1, m.2.2.2.2.1.2.2.2.1, m.2.2.2.2.1.2.2.2.2.1, (updN m.2.2.2.2.1.2.2.2.2.2.1 m.2.2.2.2.1.2.2.2.2.1 (iN i)), (updN m.2.2.2.2.1.2.2.2.2.2.2.1 m.2.2.2.2.1.2.2.2.2.1 (iN j)), (upd m.2.2.2.2.1.2.2.2.2.2.2.2.1 m.2.2.2.2.1.2.2.2.2.1 d), (upd m.2.2.2.2.1.2.2.2.2.2.2.2.2 m.2.2.2.2.1.2.2.2.2.1 q)), m.2.2.2.2.2.1, m.2.2.2.2.2.2)) rfl (fun H locs hw => ?_)
              refine lv_aload_n hx hb dX5_pocket_121 rfl (lv_at hl 0 rfl) ?_
              refine lv_dup hx hb dX5_pocket_122 rfl ?_
              refine r_get (ci := 5) (v := .int (nI m.2.2.2.2.1.2.2.2.2.1)) (C := RX5) (T := TX5) (N := 29) hx hb hts wiX5_pocket_m_pocket_X5 hown hK hw 0 rfl rfl 18 (by decide) wmX5_pocket_m_pocket_1 (fun _ h9 => h9) rfl dX5_pocket_123 ?_
              refine lv_iconst (v := 1) hx hb dX5_pocket_126 (by decide) ?_
              refine lv_iadd hx hb dX5_pocket_127 ?_
              refine r_top (y := nI (m.2.2.2.2.1.2.2.2.2.1 + 1)) (nI_add m.2.2.2.2.1.2.2.2.2.1 1) ?_
              refine r_put (ci := 5) (v := .int (nI (m.2.2.2.2.1.2.2.2.2.1 + 1))) (ty := .int) (C := RX5) (T := TX5) (N := 29) hx hb hts wiX5_pocket_m_pocket_X5 tyX5 tyX5_ok nmX5 hown hK hw 0 rfl rfl 18 (by decide) wmX5_pocket_m_pocket_1 (fun _ h9 => h9) rfl (by decide +kernel) rfl rfl (Nat.le_of_ble_eq_true rfl) dX5_pocket_128 (ws' := wMd G a (0, m.2.1, m.2.2.1, m.2.2.2.1, (m.2.2.2.2.1.1, m.2.2.2.2.1.2.1, m.2.2.2.2.1.2.2.1, m.2.2.2.2.1.2.2.2.1, m.2.2.2.2.1.2.2.2.2.1 + 1, (updN m.2.2.2.2.1.2.2.2.2.2.1 m.2.2.2.2.1.2.2.2.2.1 (iN i)), (updN m.2.2.2.2.1.2.2.2.2.2.2.1 m.2.2.2.2.1.2.2.2.2.1 (iN j)), (upd m.2.2.2.2.1.2.2.2.2.2.2.2.1 m.2.2.2.2.1.2.2.2.2.1 d), (upd m.2.2.2.2.1.2.2.2.2.2.2.2.2 m.2.2.2.2.1.2.2.2.2.1 q)), m.2.2.2.2.2.1, m.2.2.2.2.2.2)) rfl (fun H locs hw => ?_)
              refine lv_aload_n hx hb dX5_pocket_131 rfl (lv_at hl 0 rfl) ?_
              refine r_get (ci := 5) (v := .int (nI (m.2.2.2.2.1.2.2.2.2.1 + 1))) (C := RX5) (T := TX5) (N := 29) hx hb hts wiX5_pocket_m_pocket_X5 hown hK hw 0 rfl rfl 18 (by decide) wmX5_pocket_m_pocket_1 (fun _ h9 => h9) rfl dX5_pocket_132 ?_
              refine lv_iconst (v := 1) hx hb dX5_pocket_135 (by decide) ?_
              refine lv_isub hx hb dX5_pocket_136 ?_
              refine r_top (y := nI m.2.2.2.2.1.2.2.2.2.1) (nI_pred m.2.2.2.2.1.2.2.2.2.1) ?_
              exact m_iret hx hb hr hlocks hK hw (Nat.le_of_ble_eq_true rfl) (Nat.le_of_ble_eq_true rfl) dX5_pocket_137 (show (nI m.2.2.2.2.1.2.2.2.2.1 : Int32) = (mdPocket m i j d q).1 by first | rfl | (simp only [mdPocket, if_neg c_10, if_neg c_18, if_neg c_33, if_neg c_49, if_neg c_62, if_neg c_71]; first | done | rfl)) (show wMd G a (0, m.2.1, m.2.2.1, m.2.2.2.1, (m.2.2.2.2.1.1, m.2.2.2.2.1.2.1, m.2.2.2.2.1.2.2.1, m.2.2.2.2.1.2.2.2.1, m.2.2.2.2.1.2.2.2.2.1 + 1, (updN m.2.2.2.2.1.2.2.2.2.2.1 m.2.2.2.2.1.2.2.2.2.1 (iN i)), (updN m.2.2.2.2.1.2.2.2.2.2.2.1 m.2.2.2.2.1.2.2.2.2.1 (iN j)), (upd m.2.2.2.2.1.2.2.2.2.2.2.2.1 m.2.2.2.2.1.2.2.2.2.1 d), (upd m.2.2.2.2.1.2.2.2.2.2.2.2.2 m.2.2.2.2.1.2.2.2.2.1 q)), m.2.2.2.2.2.1, m.2.2.2.2.2.2) = wMd G a ((mdPocket m i j d q).2) by first | rfl | (simp only [mdPocket, if_neg c_10, if_neg c_18, if_neg c_33, if_neg c_49, if_neg c_62, if_neg c_71]; first | done | rfl))
            · refine lv_aload_n hx hb dX5_pocket_74 rfl (lv_at hl 0 rfl) ?_
              refine lv_iconst (v := 3) hx hb dX5_pocket_75 (by decide) ?_
              have hwc : wW G A9 s9.heap (([] : va_W) ++ ((wMd G a (0, m.2.1, m.2.2.1, m.2.2.2.1, m.2.2.2.2.1, m.2.2.2.2.2.1, m.2.2.2.2.2.2)) ++ ([] : va_W))) H locs := hw
              refine r_calli (res := 0) (u := ([] : va_W)) (w := wMd G a (0, m.2.1, m.2.2.1, m.2.2.2.1, m.2.2.2.2.1, m.2.2.2.2.2.1, m.2.2.2.2.2.2)) (v := ([] : va_W)) (va_runV (As := [.int 3]) (rest := []) ⟨hx, hb, hml, hown, hts⟩ (c_refuses l G a (0, m.2.1, m.2.2.1, m.2.2.2.1, m.2.2.2.2.1, m.2.2.2.2.2.1, m.2.2.2.2.2.2) 3 H.size) (cwV 1 hts gX5_pocket_X5_refuses rfl rfl rfl (by decide +kernel) ⟨Nat.le_of_ble_eq_true rfl, Nat.le_of_ble_eq_true rfl⟩) (r_preV (ci := 5) (q0 := 0) hK hwc rfl rfl rfl) rfl rfl hl.1 rfl (lv_room (Nat.le_of_ble_eq_true rfl)) dX5_pocket_76 ⟨Nat.le_of_ble_eq_true rfl, Nat.le_of_ble_eq_true rfl⟩) hwc hA rfl rfl (fun H locs hw => ?_)
              have hw : wW G A9 s9.heap (wMd G a (3, m.2.1, m.2.2.1, m.2.2.2.1, m.2.2.2.2.1, m.2.2.2.2.2.1, m.2.2.2.2.2.2)) H locs := hw
              exact m_iret hx hb hr hlocks hK hw (Nat.le_of_ble_eq_true rfl) (Nat.le_of_ble_eq_true rfl) dX5_pocket_79 (show (0 : Int32) = (mdPocket m i j d q).1 by first | rfl | (simp only [mdPocket, if_neg c_10, if_neg c_18, if_neg c_33, if_neg c_49, if_neg c_62, if_pos c_71]; first | done | rfl)) (show wMd G a (3, m.2.1, m.2.2.1, m.2.2.2.1, m.2.2.2.2.1, m.2.2.2.2.2.1, m.2.2.2.2.2.2) = wMd G a ((mdPocket m i j d q).2) by first | rfl | (simp only [mdPocket, if_neg c_10, if_neg c_18, if_neg c_33, if_neg c_49, if_neg c_62, if_pos c_71]; first | done | rfl))
        · refine lv_aload_n hx hb dX5_pocket_52 rfl (lv_at hl 0 rfl) ?_
          refine lv_iconst (v := 2) hx hb dX5_pocket_53 (by decide) ?_
          have hwc : wW G A9 s9.heap (([] : va_W) ++ ((wMd G a (0, m.2.1, m.2.2.1, m.2.2.2.1, m.2.2.2.2.1, m.2.2.2.2.2.1, m.2.2.2.2.2.2)) ++ ([] : va_W))) H locs := hw
          refine r_calli (res := 0) (u := ([] : va_W)) (w := wMd G a (0, m.2.1, m.2.2.1, m.2.2.2.1, m.2.2.2.2.1, m.2.2.2.2.2.1, m.2.2.2.2.2.2)) (v := ([] : va_W)) (va_runV (As := [.int 2]) (rest := []) ⟨hx, hb, hml, hown, hts⟩ (c_refuses l G a (0, m.2.1, m.2.2.1, m.2.2.2.1, m.2.2.2.2.1, m.2.2.2.2.2.1, m.2.2.2.2.2.2) 2 H.size) (cwV 1 hts gX5_pocket_X5_refuses rfl rfl rfl (by decide +kernel) ⟨Nat.le_of_ble_eq_true rfl, Nat.le_of_ble_eq_true rfl⟩) (r_preV (ci := 5) (q0 := 0) hK hwc rfl rfl rfl) rfl rfl hl.1 rfl (lv_room (Nat.le_of_ble_eq_true rfl)) dX5_pocket_54 ⟨Nat.le_of_ble_eq_true rfl, Nat.le_of_ble_eq_true rfl⟩) hwc hA rfl rfl (fun H locs hw => ?_)
          have hw : wW G A9 s9.heap (wMd G a (2, m.2.1, m.2.2.1, m.2.2.2.1, m.2.2.2.2.1, m.2.2.2.2.2.1, m.2.2.2.2.2.2)) H locs := hw
          exact m_iret hx hb hr hlocks hK hw (Nat.le_of_ble_eq_true rfl) (Nat.le_of_ble_eq_true rfl) dX5_pocket_57 (show (0 : Int32) = (mdPocket m i j d q).1 by first | rfl | (simp only [mdPocket, if_neg c_10, if_neg c_18, if_neg c_33, if_pos c_49]; first | done | rfl)) (show wMd G a (2, m.2.1, m.2.2.1, m.2.2.2.1, m.2.2.2.2.1, m.2.2.2.2.2.1, m.2.2.2.2.2.2) = wMd G a ((mdPocket m i j d q).2) by first | rfl | (simp only [mdPocket, if_neg c_10, if_neg c_18, if_neg c_33, if_pos c_49]; first | done | rfl))
      · refine lv_aload_n hx hb dX5_pocket_36 rfl (lv_at hl 0 rfl) ?_
        refine lv_iconst (v := 1) hx hb dX5_pocket_37 (by decide) ?_
        have hwc : wW G A9 s9.heap (([] : va_W) ++ ((wMd G a (0, m.2.1, m.2.2.1, m.2.2.2.1, m.2.2.2.2.1, m.2.2.2.2.2.1, m.2.2.2.2.2.2)) ++ ([] : va_W))) H locs := hw
        refine r_calli (res := 0) (u := ([] : va_W)) (w := wMd G a (0, m.2.1, m.2.2.1, m.2.2.2.1, m.2.2.2.2.1, m.2.2.2.2.2.1, m.2.2.2.2.2.2)) (v := ([] : va_W)) (va_runV (As := [.int 1]) (rest := []) ⟨hx, hb, hml, hown, hts⟩ (c_refuses l G a (0, m.2.1, m.2.2.1, m.2.2.2.1, m.2.2.2.2.1, m.2.2.2.2.2.1, m.2.2.2.2.2.2) 1 H.size) (cwV 1 hts gX5_pocket_X5_refuses rfl rfl rfl (by decide +kernel) ⟨Nat.le_of_ble_eq_true rfl, Nat.le_of_ble_eq_true rfl⟩) (r_preV (ci := 5) (q0 := 0) hK hwc rfl rfl rfl) rfl rfl hl.1 rfl (lv_room (Nat.le_of_ble_eq_true rfl)) dX5_pocket_38 ⟨Nat.le_of_ble_eq_true rfl, Nat.le_of_ble_eq_true rfl⟩) hwc hA rfl rfl (fun H locs hw => ?_)
        have hw : wW G A9 s9.heap (wMd G a (1, m.2.1, m.2.2.1, m.2.2.2.1, m.2.2.2.2.1, m.2.2.2.2.2.1, m.2.2.2.2.2.2)) H locs := hw
        exact m_iret hx hb hr hlocks hK hw (Nat.le_of_ble_eq_true rfl) (Nat.le_of_ble_eq_true rfl) dX5_pocket_41 (show (0 : Int32) = (mdPocket m i j d q).1 by first | rfl | (simp only [mdPocket, if_neg c_10, if_neg c_18, if_pos c_33]; first | done | rfl)) (show wMd G a (1, m.2.1, m.2.2.1, m.2.2.2.1, m.2.2.2.2.1, m.2.2.2.2.2.1, m.2.2.2.2.2.2) = wMd G a ((mdPocket m i j d q).2) by first | rfl | (simp only [mdPocket, if_neg c_10, if_neg c_18, if_pos c_33]; first | done | rfl))

theorem wiX5_fails_m_fails_X5 : ∀ w ∈ wsX50, w ∈ wsX5_fails := by decide +kernel
theorem wmX5_fails_m_fails_0 : Cond.fieldLink RX5 74 "PartSketchModel" "thrown" "I" ∈ wsX5_fails := by decide +kernel
theorem wmX5_fails_m_fails_1 : Cond.fieldLink RX5 62 "PartSketchModel" "failing" "[Z" ∈ wsX5_fails := by decide +kernel
theorem wmX5_fails_m_fails_2 : Cond.fieldLink RX5 134 "PartSketchModel" "pockets" "I" ∈ wsX5_fails := by decide +kernel
set_option maxHeartbeats 4000000 in
set_option maxRecDepth 100000 in
/-- fails -/
theorem c_m_fails (l : Launch) (G : gT) (a : aMd) (m : tMd) (p : Int32) (hok : mdOk m.2.1) (hB : mdBok m.2.2.2.2.1) (sz : Nat) : MI l yX5_fails wsX5_fails ({ frames := 3, cells := 0, slots := 0, locals := 75 }) G [.ref (a 0), .int p] (wMd G a m) (wMd G a ((mdFails m p).2)) sz ((mdFails m p).1) 0 0 := by
  refine m_of (Qc := fun A9 => (va_Qi (fun (r9 : Int32) (_ : Unit) => r9 = ((mdFails m p).1)) (fun _ t9 => wPost G A9 (wMd G a ((mdFails m p).2)) t9) A9)) (cc := cX5_fails) (maxL := 2) (ret := (some .boolean)) (by decide) rfl (Nat.le_of_ble_eq_true rfl) ?_
  intro p9 e9 s9 m9 A9 be9 mt9 c9 H locs ls hx hb hr hts hown hlocks hin hml hK hA hw hl
  have hl : lv_has ls 2 [(0, .ref (a 0)), (1, .int p)] := hl
  have join_20 : ∀ (v : Int32) (hv : v = mdFaT m p) (H : Heap) (locs : List Loc) (ls : Array Slot), wW G A9 s9.heap (wMd G a m) H locs → lv_has ls 2 [(0, .ref (a 0)), (1, .int p)] → W p9 l e9 ({ frames := 3, cells := 0, slots := 0, locals := 75 }) s9 m9 [.ref (a 0), .int p].toArray be9 mt9 c9 H locs 0 0 (MQ be9 (va_Qi (fun (r9 : Int32) (_ : Unit) => r9 = ((mdFails m p).1)) (fun _ t9 => wPost G A9 (wMd G a ((mdFails m p).2)) t9) A9) [.ref (a 0), .int p].toArray s9 0 0 A9) (F0 m9 20 ls [.int v, .ref (a 0)]) := by
    intro v hv H locs ls hw hl
    refine r_put (ci := 5) (v := .int v) (ty := .int) (C := RX5) (T := TX5) (N := 29) hx hb hts wiX5_fails_m_fails_X5 tyX5 tyX5_ok nmX5 hown hK hw 0 rfl rfl 0 (by decide) wmX5_fails_m_fails_0 (fun _ h9 => h9) rfl (by decide +kernel) rfl rfl (Nat.le_of_ble_eq_true rfl) dX5_fails_20 (ws' := wMd G a (v, m.2.1, m.2.2.1, m.2.2.2.1, m.2.2.2.2.1, m.2.2.2.2.2.1, m.2.2.2.2.2.2)) rfl (fun H locs hw => ?_)
    refine lv_aload_n hx hb dX5_fails_23 rfl (lv_at hl 0 rfl) ?_
    refine r_get (ci := 5) (v := .int v) (C := RX5) (T := TX5) (N := 29) hx hb hts wiX5_fails_m_fails_X5 hown hK hw 0 rfl rfl 0 (by decide) wmX5_fails_m_fails_0 (fun _ h9 => h9) rfl dX5_fails_24 ?_
    refine lv_if_le (tgt := 32) hx hb dX5_fails_27 (by decide) (fun c_27 => ?_) (fun c_27 => ?_)
    · have h8 := hB.2.2.1
      have hpp : iN p < m.2.2.2.2.1.2.2.2.2.1 := mdIn_lt (by omega) (fun h0 => by rw [hv] at c_27; unfold mdFaT at c_27; rw [if_pos h0] at c_27; exact absurd c_27 (by decide))
      refine lv_aload_n hx hb dX5_fails_32 rfl (lv_at hl 0 rfl) ?_
      have hwc : wW G A9 s9.heap (([] : va_W) ++ ((wMd G a (v, m.2.1, m.2.2.1, m.2.2.2.1, m.2.2.2.2.1, m.2.2.2.2.2.1, m.2.2.2.2.2.2)) ++ ([] : va_W))) H locs := hw
      refine r_callv (u := ([] : va_W)) (w := wMd G a (v, m.2.1, m.2.2.1, m.2.2.2.1, m.2.2.2.2.1, m.2.2.2.2.2.1, m.2.2.2.2.2.2)) (v := ([] : va_W)) (va_runV (As := []) (rest := []) ⟨hx, hb, hml, hown, hts⟩ (c_builds l G a (v, m.2.1, m.2.2.1, m.2.2.2.1, m.2.2.2.2.1, m.2.2.2.2.2.1, m.2.2.2.2.2.2) (by first | assumption | omega | decide) (by first | assumption | omega | decide) H.size) (cwV 0 hts gX5_fails_X5_builds rfl rfl rfl (by decide +kernel) ⟨Nat.le_of_ble_eq_true rfl, Nat.le_of_ble_eq_true rfl⟩) (r_preV (ci := 5) (q0 := 0) hK hwc rfl rfl rfl) rfl rfl hl.1 rfl (lv_room (Nat.le_of_ble_eq_true rfl)) dX5_fails_33 ⟨Nat.le_of_ble_eq_true rfl, Nat.le_of_ble_eq_true rfl⟩) hwc hA rfl rfl (fun H locs hw => ?_)
      have hw : wW G A9 s9.heap (wMd G a (v, m.2.1, m.2.2.1, (mdSolve m.2.1 m.2.2.2.1), m.2.2.2.2.1, (mdBuild m.2.1 (mdSolve m.2.1 m.2.2.2.1) m.2.2.2.2.1 m.2.2.2.2.2.1), m.2.2.2.2.2.2)) H locs := hw
      refine lv_aload_n hx hb dX5_fails_36 rfl (lv_at hl 0 rfl) ?_
      refine r_get (ci := 5) (v := .ref (a 18)) (C := RX5) (T := TX5) (N := 29) hx hb hts wiX5_fails_m_fails_X5 hown hK hw 0 rfl rfl 25 (by decide) wmX5_fails_m_fails_1 (fun _ h9 => h9) rfl dX5_fails_37 ?_
      refine lv_iload_n hx hb dX5_fails_40 rfl (lv_at hl 1 rfl) ?_
      refine r_zald (v := ((mdBuild m.2.1 (mdSolve m.2.1 m.2.2.2.1) m.2.2.2.2.1 m.2.2.2.2.2.1).2.2) (iN p)) hx hb hK hw 18 rfl (iN p) (nI_iN p) (by omega) (by decide) rfl dX5_fails_41 ?_
      exact m_zret hx hb hr hlocks hK hw (Nat.le_of_ble_eq_true rfl) (Nat.le_of_ble_eq_true rfl) dX5_fails_42 (zb_nar (mdBuildK01 _ _ _ _ _ _ hpp)) (show (((mdBuild m.2.1 (mdSolve m.2.1 m.2.2.2.1) m.2.2.2.2.1 m.2.2.2.2.2.1).2.2) (iN p) : Int32) = (mdFails m p).1 by subst hv; simp only [mdFails, if_pos c_27]; first | done | rfl) (show wMd G a (v, m.2.1, m.2.2.1, (mdSolve m.2.1 m.2.2.2.1), m.2.2.2.2.1, (mdBuild m.2.1 (mdSolve m.2.1 m.2.2.2.1) m.2.2.2.2.1 m.2.2.2.2.2.1), m.2.2.2.2.2.2) = wMd G a ((mdFails m p).2) by subst hv; simp only [mdFails, if_pos c_27]; first | done | rfl)
    · refine lv_iconst (v := 0) hx hb dX5_fails_30 (by decide) ?_
      exact m_zret hx hb hr hlocks hK hw (Nat.le_of_ble_eq_true rfl) (Nat.le_of_ble_eq_true rfl) dX5_fails_31 rfl (show (0 : Int32) = (mdFails m p).1 by subst hv; simp only [mdFails, if_neg c_27]; first | done | rfl) (show wMd G a (v, m.2.1, m.2.2.1, m.2.2.2.1, m.2.2.2.2.1, m.2.2.2.2.2.1, m.2.2.2.2.2.2) = wMd G a ((mdFails m p).2) by subst hv; simp only [mdFails, if_neg c_27]; first | done | rfl)
  refine lv_aload_n hx hb dX5_fails_0 rfl (lv_at hl 0 rfl) ?_
  refine lv_iload_n hx hb dX5_fails_1 rfl (lv_at hl 1 rfl) ?_
  refine lv_iconst (v := 0) hx hb dX5_fails_2 (by decide) ?_
  refine lv_aload_n hx hb dX5_fails_3 rfl (lv_at hl 0 rfl) ?_
  refine r_get (ci := 5) (v := .int (nI m.2.2.2.2.1.2.2.2.2.1)) (C := RX5) (T := TX5) (N := 29) hx hb hts wiX5_fails_m_fails_X5 hown hK hw 0 rfl rfl 18 (by decide) wmX5_fails_m_fails_2 (fun _ h9 => h9) rfl dX5_fails_4 ?_
  refine lv_iconst (v := 1) hx hb dX5_fails_7 (by decide) ?_
  refine lv_isub hx hb dX5_fails_8 ?_
  have hwc : wW G A9 s9.heap (([] : va_W) ++ (([] : va_W) ++ (wMd G a m))) H locs := hw
  refine r_calli (res := (mdIn p 0 ((nI m.2.2.2.2.1.2.2.2.2.1) - 1))) (u := ([] : va_W)) (w := ([] : va_W)) (v := wMd G a m) (va_runS (As := [.int p, .int 0, .int ((nI m.2.2.2.2.1.2.2.2.2.1) - 1)]) (rest := [.ref (a 0)]) ⟨hx, hb, hml, hown, hts⟩ (c_mdin l G p 0 ((nI m.2.2.2.2.1.2.2.2.2.1) - 1) H.size) (va_cwS 3 hts gX5_fails_X5_in rfl rfl rfl (by decide +kernel) ⟨Nat.le_of_ble_eq_true rfl, Nat.le_of_ble_eq_true rfl⟩) (r_preS hK hwc) rfl rfl hl.1 rfl (lv_room (Nat.le_of_ble_eq_true rfl)) dX5_fails_9 ⟨Nat.le_of_ble_eq_true rfl, Nat.le_of_ble_eq_true rfl⟩) hwc hA rfl rfl (fun H locs hw => ?_)
  have hw : wW G A9 s9.heap (wMd G a m) H locs := hw
  refine lv_if_eq (tgt := 19) hx hb dX5_fails_12 (by decide) (fun c_12 => ?_) (fun c_12 => ?_)
  · refine lv_iconst (v := 1) hx hb dX5_fails_19 (by decide) ?_
    exact join_20 1 (by simp only [mdFaT, if_pos c_12]) _ _ _ hw (lv_sub hl [0, 1] rfl)
  · refine lv_iconst (v := 0) hx hb dX5_fails_15 (by decide) ?_
    refine lv_goto (tgt := 20) hx hb dX5_fails_16 (by decide) ?_
    exact join_20 0 (by simp only [mdFaT, if_neg c_12]) _ _ _ hw (lv_sub hl [0, 1] rfl)

set_option maxHeartbeats 4000000 in
set_option maxRecDepth 100000 in
/-- sorts -/
theorem c_sorts_cx (l : Launch) (G : gT) (a : aMd) (m : tMd) (n : Nat) (hn : n ≤ 18) (sz : Nat) : MV l yX5_sorts wsX5_sorts ({ frames := 0, cells := 0, slots := 0, locals := 0 }) G [.ref (a 19), .int (nI n)] (wMd G a m) (wMd G a (m.1, m.2.1, m.2.2.1, m.2.2.2.1, m.2.2.2.2.1, m.2.2.2.2.2.1, ((srtK m.2.2.2.2.2.2.1 (n - 1)), m.2.2.2.2.2.2.2.1, m.2.2.2.2.2.2.2.2))) sz 0 0 := by
  refine m_of (Qc := fun A9 => (va_Qv (fun (_ : Unit) => True) (fun _ t9 => wPost G A9 (wMd G a (m.1, m.2.1, m.2.2.1, m.2.2.2.1, m.2.2.2.2.1, m.2.2.2.2.2.1, ((srtK m.2.2.2.2.2.2.1 (n - 1)), m.2.2.2.2.2.2.2.1, m.2.2.2.2.2.2.2.2))) t9) A9)) (cc := cX5_sorts) (maxL := 5) (ret := none) (by decide) rfl (Nat.le_of_ble_eq_true rfl) ?_
  intro p9 e9 s9 m9 A9 be9 mt9 c9 H locs ls hx hb hr hts hown hlocks hin hml hK hA hw hl
  have hl : lv_has ls 5 [(0, .ref (a 19)), (1, .int (nI n))] := hl
  refine lv_iconst (v := 1) hx hb dX5_sorts_0 (by decide) ?_
  refine lv_istore_n (lv' := [(2, .int 1), (0, .ref (a 19)), (1, .int (nI n))]) hx hb dX5_sorts_1 rfl hl (by decide) rfl (fun ls hl => ?_)
  have loop_2 : ∀ (nf : Nat) (i : Nat) (hnf : (n - i) < nf) (hi : i ≤ n - 1), ∀ (H : Heap) (locs : List Loc) (ls : Array Slot), wW G A9 s9.heap (wMd G a (m.1, m.2.1, m.2.2.1, m.2.2.2.1, m.2.2.2.2.1, m.2.2.2.2.2.1, ((srtK m.2.2.2.2.2.2.1 i), m.2.2.2.2.2.2.2.1, m.2.2.2.2.2.2.2.2))) H locs → lv_has ls 5 [(0, .ref (a 19)), (1, .int (nI n)), (2, .int (nI (i + 1)))] → W p9 l e9 ({ frames := 0, cells := 0, slots := 0, locals := 0 }) s9 m9 [.ref (a 19), .int (nI n)].toArray be9 mt9 c9 H locs 0 0 (MQ be9 (va_Qv (fun (_ : Unit) => True) (fun _ t9 => wPost G A9 (wMd G a (m.1, m.2.1, m.2.2.1, m.2.2.2.1, m.2.2.2.2.1, m.2.2.2.2.2.1, ((srtK m.2.2.2.2.2.2.1 (n - 1)), m.2.2.2.2.2.2.2.1, m.2.2.2.2.2.2.2.2))) t9) A9) [.ref (a 19), .int (nI n)].toArray s9 0 0 A9) (F0 m9 2 ls []) := by
    intro nf
    induction nf with
    | zero => intro i hnf hi; exact absurd hnf (Nat.not_lt_zero _)
    | succ nf ih_2 =>
      intro i hnf hi H locs ls hw hl
      refine lv_iload_n hx hb dX5_sorts_2 rfl (lv_at hl 2 rfl) ?_
      refine lv_iload_n hx hb dX5_sorts_3 rfl (lv_at hl 1 rfl) ?_
      refine lv_icmp_ge (tgt := 56) hx hb dX5_sorts_4 (by decide) (fun c_4 => ?_) (fun c_4 => ?_)
      · have hx_4 : n ≤ i + 1 := ct_ge (k := i + 1) (n := n) (by omega) (by omega) c_4
        exact m_vret hx hb hr hlocks hK hw (Nat.le_of_ble_eq_true rfl) (Nat.le_of_ble_eq_true rfl) dX5_sorts_56 (show wMd G a (m.1, m.2.1, m.2.2.1, m.2.2.2.1, m.2.2.2.2.1, m.2.2.2.2.2.1, ((srtK m.2.2.2.2.2.2.1 i), m.2.2.2.2.2.2.2.1, m.2.2.2.2.2.2.2.2)) = wMd G a (m.1, m.2.1, m.2.2.1, m.2.2.2.1, m.2.2.2.2.1, m.2.2.2.2.2.1, ((srtK m.2.2.2.2.2.2.1 (n - 1)), m.2.2.2.2.2.2.2.1, m.2.2.2.2.2.2.2.2)) by rw [show i = n - 1 by omega])
      · have hc_4 : i + 1 < n := ct_nge (k := i + 1) (n := n) (by omega) (by omega) c_4
        refine lv_iload_n hx hb dX5_sorts_7 rfl (lv_at hl 2 rfl) ?_
        refine lv_istore_n (lv' := [(3, .int (nI (i + 1))), (0, .ref (a 19)), (1, .int (nI n)), (2, .int (nI (i + 1)))]) hx hb dX5_sorts_8 rfl hl (by decide) rfl (fun ls hl => ?_)
        have loop_9 : ∀ (nf : Nat) (t : Nat) (f : Nat → Int32) (hnf : t < nf) (ht : t ≤ i + 1) (hF : swB t f = swB (i + 1) (srtK m.2.2.2.2.2.2.1 i)), ∀ (H : Heap) (locs : List Loc) (ls : Array Slot), wW G A9 s9.heap (wMd G a (m.1, m.2.1, m.2.2.1, m.2.2.2.1, m.2.2.2.2.1, m.2.2.2.2.2.1, (f, m.2.2.2.2.2.2.2.1, m.2.2.2.2.2.2.2.2))) H locs → lv_has ls 5 [(0, .ref (a 19)), (1, .int (nI n)), (2, .int (nI (i + 1))), (3, .int (nI t))] → W p9 l e9 ({ frames := 0, cells := 0, slots := 0, locals := 0 }) s9 m9 [.ref (a 19), .int (nI n)].toArray be9 mt9 c9 H locs 0 0 (MQ be9 (va_Qv (fun (_ : Unit) => True) (fun _ t9 => wPost G A9 (wMd G a (m.1, m.2.1, m.2.2.1, m.2.2.2.1, m.2.2.2.2.1, m.2.2.2.2.2.1, ((srtK m.2.2.2.2.2.2.1 (n - 1)), m.2.2.2.2.2.2.2.1, m.2.2.2.2.2.2.2.2))) t9) A9) [.ref (a 19), .int (nI n)].toArray s9 0 0 A9) (F0 m9 9 ls []) := by
          intro nf
          induction nf with
          | zero => intro t f hnf ht hF; exact absurd hnf (Nat.not_lt_zero _)
          | succ nf ih_9 =>
            intro t f hnf ht hF H locs ls hw hl
            refine lv_iload_n hx hb dX5_sorts_9 rfl (lv_at hl 3 rfl) ?_
            refine lv_if_le (tgt := 50) hx hb dX5_sorts_10 (by decide) (fun c_10 => ?_) (fun c_10 => ?_)
            · have ht0 : t = 0 := by have h := (nI_leI (a := t) (b := 0) (by omega) (by omega)).mp c_10; omega
              have hz : f = srtK m.2.2.2.2.2.2.1 (i + 1) := by rw [ht0] at hF; exact hF
              refine lv_iinc (v := nI ((i + 1) + 1)) (lv' := [(2, .int (nI ((i + 1) + 1))), (0, .ref (a 19)), (1, .int (nI n)), (3, .int (nI t))]) hx hb dX5_sorts_50 hl (k := 2) rfl (nI_add (i + 1) 1) (by decide) rfl (fun ls hl => ?_)
              refine lv_goto (tgt := 2) hx hb dX5_sorts_53 (by decide) ?_
              exact ih_2 (i + 1) (by omega) (by first | assumption | omega | rfl) _ _ _ (wW.eq (show wMd G a (m.1, m.2.1, m.2.2.1, m.2.2.2.1, m.2.2.2.2.1, m.2.2.2.2.2.1, (f, m.2.2.2.2.2.2.2.1, m.2.2.2.2.2.2.2.2)) = wMd G a (m.1, m.2.1, m.2.2.1, m.2.2.2.1, m.2.2.2.2.1, m.2.2.2.2.2.1, ((srtK m.2.2.2.2.2.2.1 (i + 1)), m.2.2.2.2.2.2.2.1, m.2.2.2.2.2.2.2.2)) from (by rw [hz])) hw) (lv_sub hl [1, 2, 0] rfl)
            · have ht1 : 0 < t := by rcases Nat.eq_zero_or_pos t with h | h; exact absurd (by rw [h]; decide) c_10; exact h
              obtain ⟨q, rfl⟩ : ∃ q, t = q + 1 := ⟨t - 1, by omega⟩
              refine lv_aload_n hx hb dX5_sorts_13 rfl (lv_at hl 0 rfl) ?_
              refine lv_iload_n hx hb dX5_sorts_14 rfl (lv_at hl 3 rfl) ?_
              refine r_iald (v := f (q + 1)) hx hb hK hw 19 rfl (q + 1) rfl (by omega) (by decide) rfl dX5_sorts_15 ?_
              refine lv_aload_n hx hb dX5_sorts_16 rfl (lv_at hl 0 rfl) ?_
              refine lv_iload_n hx hb dX5_sorts_17 rfl (lv_at hl 3 rfl) ?_
              refine lv_iconst (v := 1) hx hb dX5_sorts_18 (by decide) ?_
              refine lv_isub hx hb dX5_sorts_19 ?_
              refine r_top (y := nI q) (nI_pred q) ?_
              refine r_iald (v := f q) hx hb hK hw 19 rfl q rfl (by omega) (by decide) rfl dX5_sorts_20 ?_
              refine lv_icmp_ge (tgt := 50) hx hb dX5_sorts_21 (by decide) (fun c_21 => ?_) (fun c_21 => ?_)
              · have hz : f = srtK m.2.2.2.2.2.2.1 (i + 1) := by rw [← show swB (q + 1) f = srtK m.2.2.2.2.2.2.1 (i + 1) from hF]; exact (if_pos c_21).symm
                refine lv_iinc (v := nI ((i + 1) + 1)) (lv' := [(2, .int (nI ((i + 1) + 1))), (0, .ref (a 19)), (1, .int (nI n)), (3, .int (nI (q + 1)))]) hx hb dX5_sorts_50 hl (k := 2) rfl (nI_add (i + 1) 1) (by decide) rfl (fun ls hl => ?_)
                refine lv_goto (tgt := 2) hx hb dX5_sorts_53 (by decide) ?_
                exact ih_2 (i + 1) (by omega) (by first | assumption | omega | rfl) _ _ _ (wW.eq (show wMd G a (m.1, m.2.1, m.2.2.1, m.2.2.2.1, m.2.2.2.2.1, m.2.2.2.2.2.1, (f, m.2.2.2.2.2.2.2.1, m.2.2.2.2.2.2.2.2)) = wMd G a (m.1, m.2.1, m.2.2.1, m.2.2.2.1, m.2.2.2.2.1, m.2.2.2.2.2.1, ((srtK m.2.2.2.2.2.2.1 (i + 1)), m.2.2.2.2.2.2.2.1, m.2.2.2.2.2.2.2.2)) from (by rw [hz])) hw) (lv_sub hl [1, 2, 0] rfl)
              · refine lv_aload_n hx hb dX5_sorts_24 rfl (lv_at hl 0 rfl) ?_
                refine lv_iload_n hx hb dX5_sorts_25 rfl (lv_at hl 3 rfl) ?_
                refine r_iald (v := f (q + 1)) hx hb hK hw 19 rfl (q + 1) rfl (by omega) (by decide) rfl dX5_sorts_26 ?_
                refine lv_istore (lv' := [(4, .int (f (q + 1))), (0, .ref (a 19)), (1, .int (nI n)), (2, .int (nI (i + 1))), (3, .int (nI (q + 1)))]) hx hb dX5_sorts_27 hl (by decide) rfl (fun ls hl => ?_)
                refine lv_aload_n hx hb dX5_sorts_29 rfl (lv_at hl 1 rfl) ?_
                refine lv_iload_n hx hb dX5_sorts_30 rfl (lv_at hl 4 rfl) ?_
                refine lv_aload_n hx hb dX5_sorts_31 rfl (lv_at hl 1 rfl) ?_
                refine lv_iload_n hx hb dX5_sorts_32 rfl (lv_at hl 4 rfl) ?_
                refine lv_iconst (v := 1) hx hb dX5_sorts_33 (by decide) ?_
                refine lv_isub hx hb dX5_sorts_34 ?_
                refine r_top (y := nI q) (nI_pred q) ?_
                refine r_iald (v := f q) hx hb hK hw 19 rfl q rfl (by omega) (by decide) rfl dX5_sorts_35 ?_
                refine r_iast hx hb hK hw 19 rfl (q + 1) rfl (by omega) (by decide) dX5_sorts_36 (ws' := wMd G a (m.1, m.2.1, m.2.2.1, m.2.2.2.1, m.2.2.2.2.1, m.2.2.2.2.2.1, ((upd f (q + 1) (f q)), m.2.2.2.2.2.2.2.1, m.2.2.2.2.2.2.2.2))) rfl (fun H locs hw => ?_)
                refine lv_aload_n hx hb dX5_sorts_37 rfl (lv_at hl 1 rfl) ?_
                refine lv_iload_n hx hb dX5_sorts_38 rfl (lv_at hl 4 rfl) ?_
                refine lv_iconst (v := 1) hx hb dX5_sorts_39 (by decide) ?_
                refine lv_isub hx hb dX5_sorts_40 ?_
                refine r_top (y := nI q) (nI_pred q) ?_
                refine lv_iload hx hb dX5_sorts_41 (lv_at hl 0 rfl) ?_
                refine r_iast hx hb hK hw 19 rfl q rfl (by omega) (by decide) dX5_sorts_43 (ws' := wMd G a (m.1, m.2.1, m.2.2.1, m.2.2.2.1, m.2.2.2.2.1, m.2.2.2.2.2.1, ((upd (upd f (q + 1) (f q)) q (f (q + 1))), m.2.2.2.2.2.2.2.1, m.2.2.2.2.2.2.2.2))) rfl (fun H locs hw => ?_)
                refine lv_iinc (v := nI q) (lv' := [(3, .int (nI q)), (4, .int (f (q + 1))), (0, .ref (a 19)), (1, .int (nI n)), (2, .int (nI (i + 1)))]) hx hb dX5_sorts_44 hl (k := 4) rfl (pk_m1 q) (by decide) rfl (fun ls hl => ?_)
                refine lv_goto (tgt := 9) hx hb dX5_sorts_47 (by decide) ?_
                exact ih_9 q (upd (upd f (q + 1) (f q)) q (f (q + 1))) (by omega) (by omega) (by rw [← hF]; exact (if_neg c_21).symm) _ _ _ hw (lv_sub hl [2, 3, 4, 0] rfl)
        exact loop_9 ((i + 1) + 1) (i + 1) (srtK m.2.2.2.2.2.2.1 i) (Nat.lt_succ_self _) (by first | assumption | omega | rfl) (by first | assumption | omega | rfl) _ _ _ hw (lv_sub hl [1, 2, 3, 0] rfl)
  exact loop_2 ((n - 0) + 1) 0 (Nat.lt_succ_self _) (by first | assumption | omega | rfl) _ _ _ (wW.eq (show wMd G a m = wMd G a (m.1, m.2.1, m.2.2.1, m.2.2.2.1, m.2.2.2.2.1, m.2.2.2.2.2.1, ((srtK m.2.2.2.2.2.2.1 0), m.2.2.2.2.2.2.2.1, m.2.2.2.2.2.2.2.2)) from rfl) hw) (lv_sub hl [1, 2, 0] rfl)

set_option maxHeartbeats 4000000 in
set_option maxRecDepth 100000 in
/-- sorts -/
theorem c_sorts_cy (l : Launch) (G : gT) (a : aMd) (m : tMd) (n : Nat) (hn : n ≤ 18) (sz : Nat) : MV l yX5_sorts wsX5_sorts ({ frames := 0, cells := 0, slots := 0, locals := 0 }) G [.ref (a 20), .int (nI n)] (wMd G a m) (wMd G a (m.1, m.2.1, m.2.2.1, m.2.2.2.1, m.2.2.2.2.1, m.2.2.2.2.2.1, (m.2.2.2.2.2.2.1, (srtK m.2.2.2.2.2.2.2.1 (n - 1)), m.2.2.2.2.2.2.2.2))) sz 0 0 := by
  refine m_of (Qc := fun A9 => (va_Qv (fun (_ : Unit) => True) (fun _ t9 => wPost G A9 (wMd G a (m.1, m.2.1, m.2.2.1, m.2.2.2.1, m.2.2.2.2.1, m.2.2.2.2.2.1, (m.2.2.2.2.2.2.1, (srtK m.2.2.2.2.2.2.2.1 (n - 1)), m.2.2.2.2.2.2.2.2))) t9) A9)) (cc := cX5_sorts) (maxL := 5) (ret := none) (by decide) rfl (Nat.le_of_ble_eq_true rfl) ?_
  intro p9 e9 s9 m9 A9 be9 mt9 c9 H locs ls hx hb hr hts hown hlocks hin hml hK hA hw hl
  have hl : lv_has ls 5 [(0, .ref (a 20)), (1, .int (nI n))] := hl
  refine lv_iconst (v := 1) hx hb dX5_sorts_0 (by decide) ?_
  refine lv_istore_n (lv' := [(2, .int 1), (0, .ref (a 20)), (1, .int (nI n))]) hx hb dX5_sorts_1 rfl hl (by decide) rfl (fun ls hl => ?_)
  have loop_2 : ∀ (nf : Nat) (i : Nat) (hnf : (n - i) < nf) (hi : i ≤ n - 1), ∀ (H : Heap) (locs : List Loc) (ls : Array Slot), wW G A9 s9.heap (wMd G a (m.1, m.2.1, m.2.2.1, m.2.2.2.1, m.2.2.2.2.1, m.2.2.2.2.2.1, (m.2.2.2.2.2.2.1, (srtK m.2.2.2.2.2.2.2.1 i), m.2.2.2.2.2.2.2.2))) H locs → lv_has ls 5 [(0, .ref (a 20)), (1, .int (nI n)), (2, .int (nI (i + 1)))] → W p9 l e9 ({ frames := 0, cells := 0, slots := 0, locals := 0 }) s9 m9 [.ref (a 20), .int (nI n)].toArray be9 mt9 c9 H locs 0 0 (MQ be9 (va_Qv (fun (_ : Unit) => True) (fun _ t9 => wPost G A9 (wMd G a (m.1, m.2.1, m.2.2.1, m.2.2.2.1, m.2.2.2.2.1, m.2.2.2.2.2.1, (m.2.2.2.2.2.2.1, (srtK m.2.2.2.2.2.2.2.1 (n - 1)), m.2.2.2.2.2.2.2.2))) t9) A9) [.ref (a 20), .int (nI n)].toArray s9 0 0 A9) (F0 m9 2 ls []) := by
    intro nf
    induction nf with
    | zero => intro i hnf hi; exact absurd hnf (Nat.not_lt_zero _)
    | succ nf ih_2 =>
      intro i hnf hi H locs ls hw hl
      refine lv_iload_n hx hb dX5_sorts_2 rfl (lv_at hl 2 rfl) ?_
      refine lv_iload_n hx hb dX5_sorts_3 rfl (lv_at hl 1 rfl) ?_
      refine lv_icmp_ge (tgt := 56) hx hb dX5_sorts_4 (by decide) (fun c_4 => ?_) (fun c_4 => ?_)
      · have hx_4 : n ≤ i + 1 := ct_ge (k := i + 1) (n := n) (by omega) (by omega) c_4
        exact m_vret hx hb hr hlocks hK hw (Nat.le_of_ble_eq_true rfl) (Nat.le_of_ble_eq_true rfl) dX5_sorts_56 (show wMd G a (m.1, m.2.1, m.2.2.1, m.2.2.2.1, m.2.2.2.2.1, m.2.2.2.2.2.1, (m.2.2.2.2.2.2.1, (srtK m.2.2.2.2.2.2.2.1 i), m.2.2.2.2.2.2.2.2)) = wMd G a (m.1, m.2.1, m.2.2.1, m.2.2.2.1, m.2.2.2.2.1, m.2.2.2.2.2.1, (m.2.2.2.2.2.2.1, (srtK m.2.2.2.2.2.2.2.1 (n - 1)), m.2.2.2.2.2.2.2.2)) by rw [show i = n - 1 by omega])
      · have hc_4 : i + 1 < n := ct_nge (k := i + 1) (n := n) (by omega) (by omega) c_4
        refine lv_iload_n hx hb dX5_sorts_7 rfl (lv_at hl 2 rfl) ?_
        refine lv_istore_n (lv' := [(3, .int (nI (i + 1))), (0, .ref (a 20)), (1, .int (nI n)), (2, .int (nI (i + 1)))]) hx hb dX5_sorts_8 rfl hl (by decide) rfl (fun ls hl => ?_)
        have loop_9 : ∀ (nf : Nat) (t : Nat) (f : Nat → Int32) (hnf : t < nf) (ht : t ≤ i + 1) (hF : swB t f = swB (i + 1) (srtK m.2.2.2.2.2.2.2.1 i)), ∀ (H : Heap) (locs : List Loc) (ls : Array Slot), wW G A9 s9.heap (wMd G a (m.1, m.2.1, m.2.2.1, m.2.2.2.1, m.2.2.2.2.1, m.2.2.2.2.2.1, (m.2.2.2.2.2.2.1, f, m.2.2.2.2.2.2.2.2))) H locs → lv_has ls 5 [(0, .ref (a 20)), (1, .int (nI n)), (2, .int (nI (i + 1))), (3, .int (nI t))] → W p9 l e9 ({ frames := 0, cells := 0, slots := 0, locals := 0 }) s9 m9 [.ref (a 20), .int (nI n)].toArray be9 mt9 c9 H locs 0 0 (MQ be9 (va_Qv (fun (_ : Unit) => True) (fun _ t9 => wPost G A9 (wMd G a (m.1, m.2.1, m.2.2.1, m.2.2.2.1, m.2.2.2.2.1, m.2.2.2.2.2.1, (m.2.2.2.2.2.2.1, (srtK m.2.2.2.2.2.2.2.1 (n - 1)), m.2.2.2.2.2.2.2.2))) t9) A9) [.ref (a 20), .int (nI n)].toArray s9 0 0 A9) (F0 m9 9 ls []) := by
          intro nf
          induction nf with
          | zero => intro t f hnf ht hF; exact absurd hnf (Nat.not_lt_zero _)
          | succ nf ih_9 =>
            intro t f hnf ht hF H locs ls hw hl
            refine lv_iload_n hx hb dX5_sorts_9 rfl (lv_at hl 3 rfl) ?_
            refine lv_if_le (tgt := 50) hx hb dX5_sorts_10 (by decide) (fun c_10 => ?_) (fun c_10 => ?_)
            · have ht0 : t = 0 := by have h := (nI_leI (a := t) (b := 0) (by omega) (by omega)).mp c_10; omega
              have hz : f = srtK m.2.2.2.2.2.2.2.1 (i + 1) := by rw [ht0] at hF; exact hF
              refine lv_iinc (v := nI ((i + 1) + 1)) (lv' := [(2, .int (nI ((i + 1) + 1))), (0, .ref (a 20)), (1, .int (nI n)), (3, .int (nI t))]) hx hb dX5_sorts_50 hl (k := 2) rfl (nI_add (i + 1) 1) (by decide) rfl (fun ls hl => ?_)
              refine lv_goto (tgt := 2) hx hb dX5_sorts_53 (by decide) ?_
              exact ih_2 (i + 1) (by omega) (by first | assumption | omega | rfl) _ _ _ (wW.eq (show wMd G a (m.1, m.2.1, m.2.2.1, m.2.2.2.1, m.2.2.2.2.1, m.2.2.2.2.2.1, (m.2.2.2.2.2.2.1, f, m.2.2.2.2.2.2.2.2)) = wMd G a (m.1, m.2.1, m.2.2.1, m.2.2.2.1, m.2.2.2.2.1, m.2.2.2.2.2.1, (m.2.2.2.2.2.2.1, (srtK m.2.2.2.2.2.2.2.1 (i + 1)), m.2.2.2.2.2.2.2.2)) from (by rw [hz])) hw) (lv_sub hl [1, 2, 0] rfl)
            · have ht1 : 0 < t := by rcases Nat.eq_zero_or_pos t with h | h; exact absurd (by rw [h]; decide) c_10; exact h
              obtain ⟨q, rfl⟩ : ∃ q, t = q + 1 := ⟨t - 1, by omega⟩
              refine lv_aload_n hx hb dX5_sorts_13 rfl (lv_at hl 0 rfl) ?_
              refine lv_iload_n hx hb dX5_sorts_14 rfl (lv_at hl 3 rfl) ?_
              refine r_iald (v := f (q + 1)) hx hb hK hw 20 rfl (q + 1) rfl (by omega) (by decide) rfl dX5_sorts_15 ?_
              refine lv_aload_n hx hb dX5_sorts_16 rfl (lv_at hl 0 rfl) ?_
              refine lv_iload_n hx hb dX5_sorts_17 rfl (lv_at hl 3 rfl) ?_
              refine lv_iconst (v := 1) hx hb dX5_sorts_18 (by decide) ?_
              refine lv_isub hx hb dX5_sorts_19 ?_
              refine r_top (y := nI q) (nI_pred q) ?_
              refine r_iald (v := f q) hx hb hK hw 20 rfl q rfl (by omega) (by decide) rfl dX5_sorts_20 ?_
              refine lv_icmp_ge (tgt := 50) hx hb dX5_sorts_21 (by decide) (fun c_21 => ?_) (fun c_21 => ?_)
              · have hz : f = srtK m.2.2.2.2.2.2.2.1 (i + 1) := by rw [← show swB (q + 1) f = srtK m.2.2.2.2.2.2.2.1 (i + 1) from hF]; exact (if_pos c_21).symm
                refine lv_iinc (v := nI ((i + 1) + 1)) (lv' := [(2, .int (nI ((i + 1) + 1))), (0, .ref (a 20)), (1, .int (nI n)), (3, .int (nI (q + 1)))]) hx hb dX5_sorts_50 hl (k := 2) rfl (nI_add (i + 1) 1) (by decide) rfl (fun ls hl => ?_)
                refine lv_goto (tgt := 2) hx hb dX5_sorts_53 (by decide) ?_
                exact ih_2 (i + 1) (by omega) (by first | assumption | omega | rfl) _ _ _ (wW.eq (show wMd G a (m.1, m.2.1, m.2.2.1, m.2.2.2.1, m.2.2.2.2.1, m.2.2.2.2.2.1, (m.2.2.2.2.2.2.1, f, m.2.2.2.2.2.2.2.2)) = wMd G a (m.1, m.2.1, m.2.2.1, m.2.2.2.1, m.2.2.2.2.1, m.2.2.2.2.2.1, (m.2.2.2.2.2.2.1, (srtK m.2.2.2.2.2.2.2.1 (i + 1)), m.2.2.2.2.2.2.2.2)) from (by rw [hz])) hw) (lv_sub hl [1, 2, 0] rfl)
              · refine lv_aload_n hx hb dX5_sorts_24 rfl (lv_at hl 0 rfl) ?_
                refine lv_iload_n hx hb dX5_sorts_25 rfl (lv_at hl 3 rfl) ?_
                refine r_iald (v := f (q + 1)) hx hb hK hw 20 rfl (q + 1) rfl (by omega) (by decide) rfl dX5_sorts_26 ?_
                refine lv_istore (lv' := [(4, .int (f (q + 1))), (0, .ref (a 20)), (1, .int (nI n)), (2, .int (nI (i + 1))), (3, .int (nI (q + 1)))]) hx hb dX5_sorts_27 hl (by decide) rfl (fun ls hl => ?_)
                refine lv_aload_n hx hb dX5_sorts_29 rfl (lv_at hl 1 rfl) ?_
                refine lv_iload_n hx hb dX5_sorts_30 rfl (lv_at hl 4 rfl) ?_
                refine lv_aload_n hx hb dX5_sorts_31 rfl (lv_at hl 1 rfl) ?_
                refine lv_iload_n hx hb dX5_sorts_32 rfl (lv_at hl 4 rfl) ?_
                refine lv_iconst (v := 1) hx hb dX5_sorts_33 (by decide) ?_
                refine lv_isub hx hb dX5_sorts_34 ?_
                refine r_top (y := nI q) (nI_pred q) ?_
                refine r_iald (v := f q) hx hb hK hw 20 rfl q rfl (by omega) (by decide) rfl dX5_sorts_35 ?_
                refine r_iast hx hb hK hw 20 rfl (q + 1) rfl (by omega) (by decide) dX5_sorts_36 (ws' := wMd G a (m.1, m.2.1, m.2.2.1, m.2.2.2.1, m.2.2.2.2.1, m.2.2.2.2.2.1, (m.2.2.2.2.2.2.1, (upd f (q + 1) (f q)), m.2.2.2.2.2.2.2.2))) rfl (fun H locs hw => ?_)
                refine lv_aload_n hx hb dX5_sorts_37 rfl (lv_at hl 1 rfl) ?_
                refine lv_iload_n hx hb dX5_sorts_38 rfl (lv_at hl 4 rfl) ?_
                refine lv_iconst (v := 1) hx hb dX5_sorts_39 (by decide) ?_
                refine lv_isub hx hb dX5_sorts_40 ?_
                refine r_top (y := nI q) (nI_pred q) ?_
                refine lv_iload hx hb dX5_sorts_41 (lv_at hl 0 rfl) ?_
                refine r_iast hx hb hK hw 20 rfl q rfl (by omega) (by decide) dX5_sorts_43 (ws' := wMd G a (m.1, m.2.1, m.2.2.1, m.2.2.2.1, m.2.2.2.2.1, m.2.2.2.2.2.1, (m.2.2.2.2.2.2.1, (upd (upd f (q + 1) (f q)) q (f (q + 1))), m.2.2.2.2.2.2.2.2))) rfl (fun H locs hw => ?_)
                refine lv_iinc (v := nI q) (lv' := [(3, .int (nI q)), (4, .int (f (q + 1))), (0, .ref (a 20)), (1, .int (nI n)), (2, .int (nI (i + 1)))]) hx hb dX5_sorts_44 hl (k := 4) rfl (pk_m1 q) (by decide) rfl (fun ls hl => ?_)
                refine lv_goto (tgt := 9) hx hb dX5_sorts_47 (by decide) ?_
                exact ih_9 q (upd (upd f (q + 1) (f q)) q (f (q + 1))) (by omega) (by omega) (by rw [← hF]; exact (if_neg c_21).symm) _ _ _ hw (lv_sub hl [2, 3, 4, 0] rfl)
        exact loop_9 ((i + 1) + 1) (i + 1) (srtK m.2.2.2.2.2.2.2.1 i) (Nat.lt_succ_self _) (by first | assumption | omega | rfl) (by first | assumption | omega | rfl) _ _ _ hw (lv_sub hl [1, 2, 3, 0] rfl)
  exact loop_2 ((n - 0) + 1) 0 (Nat.lt_succ_self _) (by first | assumption | omega | rfl) _ _ _ (wW.eq (show wMd G a m = wMd G a (m.1, m.2.1, m.2.2.1, m.2.2.2.1, m.2.2.2.2.1, m.2.2.2.2.2.1, (m.2.2.2.2.2.2.1, (srtK m.2.2.2.2.2.2.2.1 0), m.2.2.2.2.2.2.2.2)) from rfl) hw) (lv_sub hl [1, 2, 0] rfl)

set_option maxHeartbeats 4000000 in
set_option maxRecDepth 100000 in
/-- sorts -/
theorem c_sorts_cz (l : Launch) (G : gT) (a : aMd) (m : tMd) (n : Nat) (hn : n ≤ 18) (sz : Nat) : MV l yX5_sorts wsX5_sorts ({ frames := 0, cells := 0, slots := 0, locals := 0 }) G [.ref (a 21), .int (nI n)] (wMd G a m) (wMd G a (m.1, m.2.1, m.2.2.1, m.2.2.2.1, m.2.2.2.2.1, m.2.2.2.2.2.1, (m.2.2.2.2.2.2.1, m.2.2.2.2.2.2.2.1, (srtK m.2.2.2.2.2.2.2.2 (n - 1))))) sz 0 0 := by
  refine m_of (Qc := fun A9 => (va_Qv (fun (_ : Unit) => True) (fun _ t9 => wPost G A9 (wMd G a (m.1, m.2.1, m.2.2.1, m.2.2.2.1, m.2.2.2.2.1, m.2.2.2.2.2.1, (m.2.2.2.2.2.2.1, m.2.2.2.2.2.2.2.1, (srtK m.2.2.2.2.2.2.2.2 (n - 1))))) t9) A9)) (cc := cX5_sorts) (maxL := 5) (ret := none) (by decide) rfl (Nat.le_of_ble_eq_true rfl) ?_
  intro p9 e9 s9 m9 A9 be9 mt9 c9 H locs ls hx hb hr hts hown hlocks hin hml hK hA hw hl
  have hl : lv_has ls 5 [(0, .ref (a 21)), (1, .int (nI n))] := hl
  refine lv_iconst (v := 1) hx hb dX5_sorts_0 (by decide) ?_
  refine lv_istore_n (lv' := [(2, .int 1), (0, .ref (a 21)), (1, .int (nI n))]) hx hb dX5_sorts_1 rfl hl (by decide) rfl (fun ls hl => ?_)
  have loop_2 : ∀ (nf : Nat) (i : Nat) (hnf : (n - i) < nf) (hi : i ≤ n - 1), ∀ (H : Heap) (locs : List Loc) (ls : Array Slot), wW G A9 s9.heap (wMd G a (m.1, m.2.1, m.2.2.1, m.2.2.2.1, m.2.2.2.2.1, m.2.2.2.2.2.1, (m.2.2.2.2.2.2.1, m.2.2.2.2.2.2.2.1, (srtK m.2.2.2.2.2.2.2.2 i)))) H locs → lv_has ls 5 [(0, .ref (a 21)), (1, .int (nI n)), (2, .int (nI (i + 1)))] → W p9 l e9 ({ frames := 0, cells := 0, slots := 0, locals := 0 }) s9 m9 [.ref (a 21), .int (nI n)].toArray be9 mt9 c9 H locs 0 0 (MQ be9 (va_Qv (fun (_ : Unit) => True) (fun _ t9 => wPost G A9 (wMd G a (m.1, m.2.1, m.2.2.1, m.2.2.2.1, m.2.2.2.2.1, m.2.2.2.2.2.1, (m.2.2.2.2.2.2.1, m.2.2.2.2.2.2.2.1, (srtK m.2.2.2.2.2.2.2.2 (n - 1))))) t9) A9) [.ref (a 21), .int (nI n)].toArray s9 0 0 A9) (F0 m9 2 ls []) := by
    intro nf
    induction nf with
    | zero => intro i hnf hi; exact absurd hnf (Nat.not_lt_zero _)
    | succ nf ih_2 =>
      intro i hnf hi H locs ls hw hl
      refine lv_iload_n hx hb dX5_sorts_2 rfl (lv_at hl 2 rfl) ?_
      refine lv_iload_n hx hb dX5_sorts_3 rfl (lv_at hl 1 rfl) ?_
      refine lv_icmp_ge (tgt := 56) hx hb dX5_sorts_4 (by decide) (fun c_4 => ?_) (fun c_4 => ?_)
      · have hx_4 : n ≤ i + 1 := ct_ge (k := i + 1) (n := n) (by omega) (by omega) c_4
        exact m_vret hx hb hr hlocks hK hw (Nat.le_of_ble_eq_true rfl) (Nat.le_of_ble_eq_true rfl) dX5_sorts_56 (show wMd G a (m.1, m.2.1, m.2.2.1, m.2.2.2.1, m.2.2.2.2.1, m.2.2.2.2.2.1, (m.2.2.2.2.2.2.1, m.2.2.2.2.2.2.2.1, (srtK m.2.2.2.2.2.2.2.2 i))) = wMd G a (m.1, m.2.1, m.2.2.1, m.2.2.2.1, m.2.2.2.2.1, m.2.2.2.2.2.1, (m.2.2.2.2.2.2.1, m.2.2.2.2.2.2.2.1, (srtK m.2.2.2.2.2.2.2.2 (n - 1)))) by rw [show i = n - 1 by omega])
      · have hc_4 : i + 1 < n := ct_nge (k := i + 1) (n := n) (by omega) (by omega) c_4
        refine lv_iload_n hx hb dX5_sorts_7 rfl (lv_at hl 2 rfl) ?_
        refine lv_istore_n (lv' := [(3, .int (nI (i + 1))), (0, .ref (a 21)), (1, .int (nI n)), (2, .int (nI (i + 1)))]) hx hb dX5_sorts_8 rfl hl (by decide) rfl (fun ls hl => ?_)
        have loop_9 : ∀ (nf : Nat) (t : Nat) (f : Nat → Int32) (hnf : t < nf) (ht : t ≤ i + 1) (hF : swB t f = swB (i + 1) (srtK m.2.2.2.2.2.2.2.2 i)), ∀ (H : Heap) (locs : List Loc) (ls : Array Slot), wW G A9 s9.heap (wMd G a (m.1, m.2.1, m.2.2.1, m.2.2.2.1, m.2.2.2.2.1, m.2.2.2.2.2.1, (m.2.2.2.2.2.2.1, m.2.2.2.2.2.2.2.1, f))) H locs → lv_has ls 5 [(0, .ref (a 21)), (1, .int (nI n)), (2, .int (nI (i + 1))), (3, .int (nI t))] → W p9 l e9 ({ frames := 0, cells := 0, slots := 0, locals := 0 }) s9 m9 [.ref (a 21), .int (nI n)].toArray be9 mt9 c9 H locs 0 0 (MQ be9 (va_Qv (fun (_ : Unit) => True) (fun _ t9 => wPost G A9 (wMd G a (m.1, m.2.1, m.2.2.1, m.2.2.2.1, m.2.2.2.2.1, m.2.2.2.2.2.1, (m.2.2.2.2.2.2.1, m.2.2.2.2.2.2.2.1, (srtK m.2.2.2.2.2.2.2.2 (n - 1))))) t9) A9) [.ref (a 21), .int (nI n)].toArray s9 0 0 A9) (F0 m9 9 ls []) := by
          intro nf
          induction nf with
          | zero => intro t f hnf ht hF; exact absurd hnf (Nat.not_lt_zero _)
          | succ nf ih_9 =>
            intro t f hnf ht hF H locs ls hw hl
            refine lv_iload_n hx hb dX5_sorts_9 rfl (lv_at hl 3 rfl) ?_
            refine lv_if_le (tgt := 50) hx hb dX5_sorts_10 (by decide) (fun c_10 => ?_) (fun c_10 => ?_)
            · have ht0 : t = 0 := by have h := (nI_leI (a := t) (b := 0) (by omega) (by omega)).mp c_10; omega
              have hz : f = srtK m.2.2.2.2.2.2.2.2 (i + 1) := by rw [ht0] at hF; exact hF
              refine lv_iinc (v := nI ((i + 1) + 1)) (lv' := [(2, .int (nI ((i + 1) + 1))), (0, .ref (a 21)), (1, .int (nI n)), (3, .int (nI t))]) hx hb dX5_sorts_50 hl (k := 2) rfl (nI_add (i + 1) 1) (by decide) rfl (fun ls hl => ?_)
              refine lv_goto (tgt := 2) hx hb dX5_sorts_53 (by decide) ?_
              exact ih_2 (i + 1) (by omega) (by first | assumption | omega | rfl) _ _ _ (wW.eq (show wMd G a (m.1, m.2.1, m.2.2.1, m.2.2.2.1, m.2.2.2.2.1, m.2.2.2.2.2.1, (m.2.2.2.2.2.2.1, m.2.2.2.2.2.2.2.1, f)) = wMd G a (m.1, m.2.1, m.2.2.1, m.2.2.2.1, m.2.2.2.2.1, m.2.2.2.2.2.1, (m.2.2.2.2.2.2.1, m.2.2.2.2.2.2.2.1, (srtK m.2.2.2.2.2.2.2.2 (i + 1)))) from (by rw [hz])) hw) (lv_sub hl [1, 2, 0] rfl)
            · have ht1 : 0 < t := by rcases Nat.eq_zero_or_pos t with h | h; exact absurd (by rw [h]; decide) c_10; exact h
              obtain ⟨q, rfl⟩ : ∃ q, t = q + 1 := ⟨t - 1, by omega⟩
              refine lv_aload_n hx hb dX5_sorts_13 rfl (lv_at hl 0 rfl) ?_
              refine lv_iload_n hx hb dX5_sorts_14 rfl (lv_at hl 3 rfl) ?_
              refine r_iald (v := f (q + 1)) hx hb hK hw 21 rfl (q + 1) rfl (by omega) (by decide) rfl dX5_sorts_15 ?_
              refine lv_aload_n hx hb dX5_sorts_16 rfl (lv_at hl 0 rfl) ?_
              refine lv_iload_n hx hb dX5_sorts_17 rfl (lv_at hl 3 rfl) ?_
              refine lv_iconst (v := 1) hx hb dX5_sorts_18 (by decide) ?_
              refine lv_isub hx hb dX5_sorts_19 ?_
              refine r_top (y := nI q) (nI_pred q) ?_
              refine r_iald (v := f q) hx hb hK hw 21 rfl q rfl (by omega) (by decide) rfl dX5_sorts_20 ?_
              refine lv_icmp_ge (tgt := 50) hx hb dX5_sorts_21 (by decide) (fun c_21 => ?_) (fun c_21 => ?_)
              · have hz : f = srtK m.2.2.2.2.2.2.2.2 (i + 1) := by rw [← show swB (q + 1) f = srtK m.2.2.2.2.2.2.2.2 (i + 1) from hF]; exact (if_pos c_21).symm
                refine lv_iinc (v := nI ((i + 1) + 1)) (lv' := [(2, .int (nI ((i + 1) + 1))), (0, .ref (a 21)), (1, .int (nI n)), (3, .int (nI (q + 1)))]) hx hb dX5_sorts_50 hl (k := 2) rfl (nI_add (i + 1) 1) (by decide) rfl (fun ls hl => ?_)
                refine lv_goto (tgt := 2) hx hb dX5_sorts_53 (by decide) ?_
                exact ih_2 (i + 1) (by omega) (by first | assumption | omega | rfl) _ _ _ (wW.eq (show wMd G a (m.1, m.2.1, m.2.2.1, m.2.2.2.1, m.2.2.2.2.1, m.2.2.2.2.2.1, (m.2.2.2.2.2.2.1, m.2.2.2.2.2.2.2.1, f)) = wMd G a (m.1, m.2.1, m.2.2.1, m.2.2.2.1, m.2.2.2.2.1, m.2.2.2.2.2.1, (m.2.2.2.2.2.2.1, m.2.2.2.2.2.2.2.1, (srtK m.2.2.2.2.2.2.2.2 (i + 1)))) from (by rw [hz])) hw) (lv_sub hl [1, 2, 0] rfl)
              · refine lv_aload_n hx hb dX5_sorts_24 rfl (lv_at hl 0 rfl) ?_
                refine lv_iload_n hx hb dX5_sorts_25 rfl (lv_at hl 3 rfl) ?_
                refine r_iald (v := f (q + 1)) hx hb hK hw 21 rfl (q + 1) rfl (by omega) (by decide) rfl dX5_sorts_26 ?_
                refine lv_istore (lv' := [(4, .int (f (q + 1))), (0, .ref (a 21)), (1, .int (nI n)), (2, .int (nI (i + 1))), (3, .int (nI (q + 1)))]) hx hb dX5_sorts_27 hl (by decide) rfl (fun ls hl => ?_)
                refine lv_aload_n hx hb dX5_sorts_29 rfl (lv_at hl 1 rfl) ?_
                refine lv_iload_n hx hb dX5_sorts_30 rfl (lv_at hl 4 rfl) ?_
                refine lv_aload_n hx hb dX5_sorts_31 rfl (lv_at hl 1 rfl) ?_
                refine lv_iload_n hx hb dX5_sorts_32 rfl (lv_at hl 4 rfl) ?_
                refine lv_iconst (v := 1) hx hb dX5_sorts_33 (by decide) ?_
                refine lv_isub hx hb dX5_sorts_34 ?_
                refine r_top (y := nI q) (nI_pred q) ?_
                refine r_iald (v := f q) hx hb hK hw 21 rfl q rfl (by omega) (by decide) rfl dX5_sorts_35 ?_
                refine r_iast hx hb hK hw 21 rfl (q + 1) rfl (by omega) (by decide) dX5_sorts_36 (ws' := wMd G a (m.1, m.2.1, m.2.2.1, m.2.2.2.1, m.2.2.2.2.1, m.2.2.2.2.2.1, (m.2.2.2.2.2.2.1, m.2.2.2.2.2.2.2.1, (upd f (q + 1) (f q))))) rfl (fun H locs hw => ?_)
                refine lv_aload_n hx hb dX5_sorts_37 rfl (lv_at hl 1 rfl) ?_
                refine lv_iload_n hx hb dX5_sorts_38 rfl (lv_at hl 4 rfl) ?_
                refine lv_iconst (v := 1) hx hb dX5_sorts_39 (by decide) ?_
                refine lv_isub hx hb dX5_sorts_40 ?_
                refine r_top (y := nI q) (nI_pred q) ?_
                refine lv_iload hx hb dX5_sorts_41 (lv_at hl 0 rfl) ?_
                refine r_iast hx hb hK hw 21 rfl q rfl (by omega) (by decide) dX5_sorts_43 (ws' := wMd G a (m.1, m.2.1, m.2.2.1, m.2.2.2.1, m.2.2.2.2.1, m.2.2.2.2.2.1, (m.2.2.2.2.2.2.1, m.2.2.2.2.2.2.2.1, (upd (upd f (q + 1) (f q)) q (f (q + 1)))))) rfl (fun H locs hw => ?_)
                refine lv_iinc (v := nI q) (lv' := [(3, .int (nI q)), (4, .int (f (q + 1))), (0, .ref (a 21)), (1, .int (nI n)), (2, .int (nI (i + 1)))]) hx hb dX5_sorts_44 hl (k := 4) rfl (pk_m1 q) (by decide) rfl (fun ls hl => ?_)
                refine lv_goto (tgt := 9) hx hb dX5_sorts_47 (by decide) ?_
                exact ih_9 q (upd (upd f (q + 1) (f q)) q (f (q + 1))) (by omega) (by omega) (by rw [← hF]; exact (if_neg c_21).symm) _ _ _ hw (lv_sub hl [2, 3, 4, 0] rfl)
        exact loop_9 ((i + 1) + 1) (i + 1) (srtK m.2.2.2.2.2.2.2.2 i) (Nat.lt_succ_self _) (by first | assumption | omega | rfl) (by first | assumption | omega | rfl) _ _ _ hw (lv_sub hl [1, 2, 3, 0] rfl)
  exact loop_2 ((n - 0) + 1) 0 (Nat.lt_succ_self _) (by first | assumption | omega | rfl) _ _ _ (wW.eq (show wMd G a m = wMd G a (m.1, m.2.1, m.2.2.1, m.2.2.2.1, m.2.2.2.2.1, m.2.2.2.2.2.1, (m.2.2.2.2.2.2.1, m.2.2.2.2.2.2.2.1, (srtK m.2.2.2.2.2.2.2.2 0))) from rfl) hw) (lv_sub hl [1, 2, 0] rfl)

theorem wiX5_isOut_isout_X5 : ∀ w ∈ wsX50, w ∈ wsX5_isOut := by decide +kernel
theorem wmX5_isOut_isout_0 : Cond.fieldLink RX5 134 "PartSketchModel" "pockets" "I" ∈ wsX5_isOut := by decide +kernel
theorem wmX5_isOut_isout_1 : Cond.fieldLink RX5 62 "PartSketchModel" "failing" "[Z" ∈ wsX5_isOut := by decide +kernel
theorem wmX5_isOut_isout_2 : Cond.fieldLink RX5 59 "PartSketchModel" "begins" "[I" ∈ wsX5_isOut := by decide +kernel
theorem wmX5_isOut_isout_3 : Cond.fieldLink RX5 50 "PartSketchModel" "depth" "[I" ∈ wsX5_isOut := by decide +kernel
theorem wmX5_isOut_isout_4 : Cond.fieldLink RX5 56 "PartSketchModel" "side" "[I" ∈ wsX5_isOut := by decide +kernel
set_option maxHeartbeats 4000000 in
set_option maxRecDepth 100000 in
/-- isOut -/
theorem c_isout (l : Launch) (G : gT) (a : aMd) (m : tMd) (x : Int32) (y : Int32) (z : Int32) (hnk : m.2.2.2.2.1.2.2.2.2.1 ≤ 8) (sz : Nat) : MI l yX5_isOut wsX5_isOut ({ frames := 0, cells := 0, slots := 0, locals := 0 }) G [.ref (a 0), .int x, .int y, .int z] (wMd G a m) (wMd G a m) sz (mdIsK m.2.2.2.2.1 m.2.2.2.2.2.1 x y z m.2.2.2.2.1.2.2.2.2.1) 0 0 := by
  refine m_of (Qc := fun A9 => (va_Qi (fun (r9 : Int32) (_ : Unit) => r9 = (mdIsK m.2.2.2.2.1 m.2.2.2.2.2.1 x y z m.2.2.2.2.1.2.2.2.2.1)) (fun _ t9 => wPost G A9 (wMd G a m) t9) A9)) (cc := cX5_isOut) (maxL := 7) (ret := (some .boolean)) (by decide) rfl (Nat.le_of_ble_eq_true rfl) ?_
  intro p9 e9 s9 m9 A9 be9 mt9 c9 H locs ls hx hb hr hts hown hlocks hin hml hK hA hw hl
  have hl : lv_has ls 7 [(0, .ref (a 0)), (1, .int x), (2, .int y), (3, .int z)] := hl
  refine lv_iconst (v := 0) hx hb dX5_isOut_0 (by decide) ?_
  refine lv_istore (lv' := [(4, .int 0), (0, .ref (a 0)), (1, .int x), (2, .int y), (3, .int z)]) hx hb dX5_isOut_1 hl (by decide) rfl (fun ls hl => ?_)
  refine lv_iconst (v := 0) hx hb dX5_isOut_3 (by decide) ?_
  refine lv_istore (lv' := [(5, .int 0), (4, .int 0), (0, .ref (a 0)), (1, .int x), (2, .int y), (3, .int z)]) hx hb dX5_isOut_4 hl (by decide) rfl (fun ls hl => ?_)
  have loop_6 : ∀ (nf : Nat) (k : Nat) (hnf : (m.2.2.2.2.1.2.2.2.2.1 - k) < nf) (hk : k ≤ m.2.2.2.2.1.2.2.2.2.1), ∀ (H : Heap) (locs : List Loc) (ls : Array Slot), wW G A9 s9.heap (wMd G a m) H locs → lv_has ls 7 [(0, .ref (a 0)), (1, .int x), (2, .int y), (3, .int z), (4, .int (mdIsK m.2.2.2.2.1 m.2.2.2.2.2.1 x y z k)), (5, .int (nI k))] → W p9 l e9 ({ frames := 0, cells := 0, slots := 0, locals := 0 }) s9 m9 [.ref (a 0), .int x, .int y, .int z].toArray be9 mt9 c9 H locs 0 0 (MQ be9 (va_Qi (fun (r9 : Int32) (_ : Unit) => r9 = (mdIsK m.2.2.2.2.1 m.2.2.2.2.2.1 x y z m.2.2.2.2.1.2.2.2.2.1)) (fun _ t9 => wPost G A9 (wMd G a m) t9) A9) [.ref (a 0), .int x, .int y, .int z].toArray s9 0 0 A9) (F0 m9 6 ls []) := by
    intro nf
    induction nf with
    | zero => intro k hnf hk; exact absurd hnf (Nat.not_lt_zero _)
    | succ nf ih_6 =>
      intro k hnf hk H locs ls hw hl
      refine lv_iload hx hb dX5_isOut_6 (lv_at hl 5 rfl) ?_
      refine lv_aload_n hx hb dX5_isOut_8 rfl (lv_at hl 0 rfl) ?_
      refine r_get (ci := 5) (v := .int (nI m.2.2.2.2.1.2.2.2.2.1)) (C := RX5) (T := TX5) (N := 29) hx hb hts wiX5_isOut_isout_X5 hown hK hw 0 rfl rfl 18 (by decide) wmX5_isOut_isout_0 (fun _ h9 => h9) rfl dX5_isOut_9 ?_
      refine lv_icmp_ge (tgt := 143) hx hb dX5_isOut_12 (by decide) (fun c_12 => ?_) (fun c_12 => ?_)
      · have hx_12 : m.2.2.2.2.1.2.2.2.2.1 ≤ k := ct_ge (k := k) (n := m.2.2.2.2.1.2.2.2.2.1) (by omega) (by omega) c_12
        refine lv_iload hx hb dX5_isOut_143 (lv_at hl 4 rfl) ?_
        exact m_zret hx hb hr hlocks hK hw (Nat.le_of_ble_eq_true rfl) (Nat.le_of_ble_eq_true rfl) dX5_isOut_145 (zb_nar (mdIsK01 _ _ _ _ _ _)) (show (mdIsK m.2.2.2.2.1 m.2.2.2.2.2.1 x y z k : Int32) = mdIsK m.2.2.2.2.1 m.2.2.2.2.2.1 x y z m.2.2.2.2.1.2.2.2.2.1 by rw [show k = m.2.2.2.2.1.2.2.2.2.1 by omega]) rfl
      · have hc_12 : k < m.2.2.2.2.1.2.2.2.2.1 := ct_nge (k := k) (n := m.2.2.2.2.1.2.2.2.2.1) (by omega) (by omega) c_12
        have join_78 : ∀ (v : Int32) (hv : v = mdAcr m.2.2.2.2.2.1.1 x y k) (H : Heap) (locs : List Loc) (ls : Array Slot), wW G A9 s9.heap (wMd G a m) H locs → lv_has ls 7 [(0, .ref (a 0)), (1, .int x), (2, .int y), (3, .int z), (4, .int (mdIsK m.2.2.2.2.1 m.2.2.2.2.2.1 x y z k)), (5, .int (nI k))] → W p9 l e9 ({ frames := 0, cells := 0, slots := 0, locals := 0 }) s9 m9 [.ref (a 0), .int x, .int y, .int z].toArray be9 mt9 c9 H locs 0 0 (MQ be9 (va_Qi (fun (r9 : Int32) (_ : Unit) => r9 = (mdIsK m.2.2.2.2.1 m.2.2.2.2.2.1 x y z m.2.2.2.2.1.2.2.2.2.1)) (fun _ t9 => wPost G A9 (wMd G a m) t9) A9) [.ref (a 0), .int x, .int y, .int z].toArray s9 0 0 A9) (F0 m9 78 ls [.int v]) := by
          intro v hv H locs ls hw hl
          refine lv_istore (lv' := [(6, .int v), (0, .ref (a 0)), (1, .int x), (2, .int y), (3, .int z), (4, .int (mdIsK m.2.2.2.2.1 m.2.2.2.2.2.1 x y z k)), (5, .int (nI k))]) hx hb dX5_isOut_78 hl (by decide) rfl (fun ls hl => ?_)
          have join_135 : ∀ (v2 : Int32) (hv2 : v2 = mdIsK m.2.2.2.2.1 m.2.2.2.2.2.1 x y z (k + 1)) (H : Heap) (locs : List Loc) (ls : Array Slot), wW G A9 s9.heap (wMd G a m) H locs → lv_has ls 7 [(0, .ref (a 0)), (1, .int x), (2, .int y), (3, .int z), (4, .int (mdIsK m.2.2.2.2.1 m.2.2.2.2.2.1 x y z k)), (5, .int (nI k)), (6, .int v)] → W p9 l e9 ({ frames := 0, cells := 0, slots := 0, locals := 0 }) s9 m9 [.ref (a 0), .int x, .int y, .int z].toArray be9 mt9 c9 H locs 0 0 (MQ be9 (va_Qi (fun (r9 : Int32) (_ : Unit) => r9 = (mdIsK m.2.2.2.2.1 m.2.2.2.2.2.1 x y z m.2.2.2.2.1.2.2.2.2.1)) (fun _ t9 => wPost G A9 (wMd G a m) t9) A9) [.ref (a 0), .int x, .int y, .int z].toArray s9 0 0 A9) (F0 m9 135 ls [.int v2]) := by
            intro v2 hv2 H locs ls hw hl
            refine lv_istore (lv' := [(4, .int v2), (0, .ref (a 0)), (1, .int x), (2, .int y), (3, .int z), (5, .int (nI k)), (6, .int v)]) hx hb dX5_isOut_135 hl (by decide) rfl (fun ls hl => ?_)
            refine lv_iinc (v := nI (k + 1)) (lv' := [(5, .int (nI (k + 1))), (4, .int v2), (0, .ref (a 0)), (1, .int x), (2, .int y), (3, .int z), (6, .int v)]) hx hb dX5_isOut_137 hl (k := 5) rfl (nI_add k 1) (by decide) rfl (fun ls hl => ?_)
            refine lv_goto (tgt := 6) hx hb dX5_isOut_140 (by decide) ?_
            exact ih_6 (k + 1) (by omega) (by first | assumption | omega | rfl) _ _ _ hw (lv_sub hl [2, 3, 4, 5, 1, 0] (show lv_pick [(5, .int (nI (k + 1))), (4, .int v2), (0, .ref (a 0)), (1, .int x), (2, .int y), (3, .int z), (6, .int v)] [2, 3, 4, 5, 1, 0] = [(0, .ref (a 0)), (1, .int x), (2, .int y), (3, .int z), (4, .int (mdIsK m.2.2.2.2.1 m.2.2.2.2.2.1 x y z (k + 1))), (5, .int (nI (k + 1)))] by rw [hv2]; rfl))
          refine lv_iload hx hb dX5_isOut_80 (lv_at hl 5 rfl) ?_
          refine lv_if_ne (tgt := 130) hx hb dX5_isOut_82 (by decide) (fun c_82 => ?_) (fun c_82 => ?_)
          · refine lv_iconst (v := 1) hx hb dX5_isOut_130 (by decide) ?_
            refine lv_goto (tgt := 135) hx hb dX5_isOut_131 (by decide) ?_
            exact join_135 1 (by subst hv; simp only [mdIsK, if_neg c_82]) _ _ _ hw (lv_sub hl [1, 2, 3, 4, 5, 6, 0] rfl)
          · refine lv_aload_n hx hb dX5_isOut_85 rfl (lv_at hl 1 rfl) ?_
            refine r_get (ci := 5) (v := .ref (a 18)) (C := RX5) (T := TX5) (N := 29) hx hb hts wiX5_isOut_isout_X5 hown hK hw 0 rfl rfl 25 (by decide) wmX5_isOut_isout_1 (fun _ h9 => h9) rfl dX5_isOut_86 ?_
            refine lv_iload hx hb dX5_isOut_89 (lv_at hl 6 rfl) ?_
            refine r_zald (v := m.2.2.2.2.2.1.2.2 k) hx hb hK hw 18 rfl k rfl (by omega) (by decide) rfl dX5_isOut_91 ?_
            refine lv_if_ne (tgt := 134) hx hb dX5_isOut_92 (by decide) (fun c_92 => ?_) (fun c_92 => ?_)
            · refine lv_iconst (v := 0) hx hb dX5_isOut_134 (by decide) ?_
              exact join_135 0 (by subst hv; simp only [mdIsK, if_pos c_82, if_neg c_92]) _ _ _ hw (lv_sub hl [1, 2, 3, 4, 5, 6, 0] rfl)
            · refine lv_iload hx hb dX5_isOut_95 (lv_at hl 0 rfl) ?_
              refine lv_if_eq (tgt := 134) hx hb dX5_isOut_97 (by decide) (fun c_97 => ?_) (fun c_97 => ?_)
              · refine lv_iconst (v := 0) hx hb dX5_isOut_134 (by decide) ?_
                exact join_135 0 (by subst hv; simp only [mdIsK, if_pos c_82, if_pos c_92, if_pos c_97]) _ _ _ hw (lv_sub hl [1, 2, 3, 4, 5, 6, 0] rfl)
              · refine lv_iload_n hx hb dX5_isOut_100 rfl (lv_at hl 4 rfl) ?_
                refine lv_aload_n hx hb dX5_isOut_101 rfl (lv_at hl 1 rfl) ?_
                refine r_get (ci := 5) (v := .ref (a 17)) (C := RX5) (T := TX5) (N := 29) hx hb hts wiX5_isOut_isout_X5 hown hK hw 0 rfl rfl 24 (by decide) wmX5_isOut_isout_2 (fun _ h9 => h9) rfl dX5_isOut_102 ?_
                refine lv_iload hx hb dX5_isOut_105 (lv_at hl 6 rfl) ?_
                refine r_iald (v := m.2.2.2.2.2.1.2.1 k) hx hb hK hw 17 rfl k rfl (by omega) (by decide) rfl dX5_isOut_107 ?_
                refine lv_icmp_lt (tgt := 134) hx hb dX5_isOut_108 (by decide) (fun c_108 => ?_) (fun c_108 => ?_)
                · refine lv_iconst (v := 0) hx hb dX5_isOut_134 (by decide) ?_
                  exact join_135 0 (by subst hv; simp only [mdIsK, if_pos c_82, if_pos c_92, if_neg c_97, if_pos c_108]) _ _ _ hw (lv_sub hl [1, 2, 3, 4, 5, 6, 0] rfl)
                · refine lv_iload_n hx hb dX5_isOut_111 rfl (lv_at hl 4 rfl) ?_
                  refine lv_aload_n hx hb dX5_isOut_112 rfl (lv_at hl 1 rfl) ?_
                  refine r_get (ci := 5) (v := .ref (a 17)) (C := RX5) (T := TX5) (N := 29) hx hb hts wiX5_isOut_isout_X5 hown hK hw 0 rfl rfl 24 (by decide) wmX5_isOut_isout_2 (fun _ h9 => h9) rfl dX5_isOut_113 ?_
                  refine lv_iload hx hb dX5_isOut_116 (lv_at hl 6 rfl) ?_
                  refine r_iald (v := m.2.2.2.2.2.1.2.1 k) hx hb hK hw 17 rfl k rfl (by omega) (by decide) rfl dX5_isOut_118 ?_
                  refine lv_aload_n hx hb dX5_isOut_119 rfl (lv_at hl 1 rfl) ?_
                  refine r_get (ci := 5) (v := .ref (a 14)) (C := RX5) (T := TX5) (N := 29) hx hb hts wiX5_isOut_isout_X5 hown hK hw 0 rfl rfl 21 (by decide) wmX5_isOut_isout_3 (fun _ h9 => h9) rfl dX5_isOut_120 ?_
                  refine lv_iload hx hb dX5_isOut_123 (lv_at hl 6 rfl) ?_
                  refine r_iald (v := m.2.2.2.2.1.2.2.2.2.2.2.2.1 k) hx hb hK hw 14 rfl k rfl (by omega) (by decide) rfl dX5_isOut_125 ?_
                  refine lv_iadd hx hb dX5_isOut_126 ?_
                  refine lv_icmp_ge (tgt := 134) hx hb dX5_isOut_127 (by decide) (fun c_127 => ?_) (fun c_127 => ?_)
                  · refine lv_iconst (v := 0) hx hb dX5_isOut_134 (by decide) ?_
                    exact join_135 0 (by subst hv; simp only [mdIsK, if_pos c_82, if_pos c_92, if_neg c_97, if_neg c_108, if_pos c_127]) _ _ _ hw (lv_sub hl [1, 2, 3, 4, 5, 6, 0] rfl)
                  · refine lv_iconst (v := 1) hx hb dX5_isOut_130 (by decide) ?_
                    refine lv_goto (tgt := 135) hx hb dX5_isOut_131 (by decide) ?_
                    exact join_135 1 (by subst hv; simp only [mdIsK, if_pos c_82, if_pos c_92, if_neg c_97, if_neg c_108, if_neg c_127]) _ _ _ hw (lv_sub hl [1, 2, 3, 4, 5, 6, 0] rfl)
        refine lv_iload_n hx hb dX5_isOut_15 rfl (lv_at hl 1 rfl) ?_
        refine lv_aload_n hx hb dX5_isOut_16 rfl (lv_at hl 0 rfl) ?_
        refine r_get (ci := 5) (v := .ref (a 16)) (C := RX5) (T := TX5) (N := 29) hx hb hts wiX5_isOut_isout_X5 hown hK hw 0 rfl rfl 23 (by decide) wmX5_isOut_isout_4 (fun _ h9 => h9) rfl dX5_isOut_17 ?_
        refine lv_iconst (v := 4) hx hb dX5_isOut_20 (by decide) ?_
        refine lv_iload hx hb dX5_isOut_21 (lv_at hl 5 rfl) ?_
        refine lv_imul hx hb dX5_isOut_23 ?_
        refine r_top (y := nI (4 * k)) (pk_mul 4 k) ?_
        refine r_iald (v := m.2.2.2.2.2.1.1 (4 * k)) hx hb hK hw 16 rfl (4 * k) rfl (by omega) (by decide) rfl dX5_isOut_24 ?_
        refine lv_icmp_lt (tgt := 77) hx hb dX5_isOut_25 (by decide) (fun c_25 => ?_) (fun c_25 => ?_)
        · refine lv_iconst (v := 0) hx hb dX5_isOut_77 (by decide) ?_
          exact join_78 0 (by simp only [mdAcr, if_pos c_25]) _ _ _ hw (lv_sub hl [0, 1, 2, 3, 4, 5] rfl)
        · refine lv_iload_n hx hb dX5_isOut_28 rfl (lv_at hl 1 rfl) ?_
          refine lv_aload_n hx hb dX5_isOut_29 rfl (lv_at hl 0 rfl) ?_
          refine r_get (ci := 5) (v := .ref (a 16)) (C := RX5) (T := TX5) (N := 29) hx hb hts wiX5_isOut_isout_X5 hown hK hw 0 rfl rfl 23 (by decide) wmX5_isOut_isout_4 (fun _ h9 => h9) rfl dX5_isOut_30 ?_
          refine lv_iconst (v := 4) hx hb dX5_isOut_33 (by decide) ?_
          refine lv_iload hx hb dX5_isOut_34 (lv_at hl 5 rfl) ?_
          refine lv_imul hx hb dX5_isOut_36 ?_
          refine r_top (y := nI (4 * k)) (pk_mul 4 k) ?_
          refine lv_iconst (v := 1) hx hb dX5_isOut_37 (by decide) ?_
          refine lv_iadd hx hb dX5_isOut_38 ?_
          refine r_top (y := nI ((4 * k) + 1)) (nI_add (4 * k) 1) ?_
          refine r_iald (v := m.2.2.2.2.2.1.1 ((4 * k) + 1)) hx hb hK hw 16 rfl ((4 * k) + 1) rfl (by omega) (by decide) rfl dX5_isOut_39 ?_
          refine lv_icmp_ge (tgt := 77) hx hb dX5_isOut_40 (by decide) (fun c_40 => ?_) (fun c_40 => ?_)
          · refine lv_iconst (v := 0) hx hb dX5_isOut_77 (by decide) ?_
            exact join_78 0 (by simp only [mdAcr, if_neg c_25, if_pos c_40]) _ _ _ hw (lv_sub hl [0, 1, 2, 3, 4, 5] rfl)
          · refine lv_iload_n hx hb dX5_isOut_43 rfl (lv_at hl 2 rfl) ?_
            refine lv_aload_n hx hb dX5_isOut_44 rfl (lv_at hl 0 rfl) ?_
            refine r_get (ci := 5) (v := .ref (a 16)) (C := RX5) (T := TX5) (N := 29) hx hb hts wiX5_isOut_isout_X5 hown hK hw 0 rfl rfl 23 (by decide) wmX5_isOut_isout_4 (fun _ h9 => h9) rfl dX5_isOut_45 ?_
            refine lv_iconst (v := 4) hx hb dX5_isOut_48 (by decide) ?_
            refine lv_iload hx hb dX5_isOut_49 (lv_at hl 5 rfl) ?_
            refine lv_imul hx hb dX5_isOut_51 ?_
            refine r_top (y := nI (4 * k)) (pk_mul 4 k) ?_
            refine lv_iconst (v := 2) hx hb dX5_isOut_52 (by decide) ?_
            refine lv_iadd hx hb dX5_isOut_53 ?_
            refine r_top (y := nI ((4 * k) + 2)) (nI_add (4 * k) 2) ?_
            refine r_iald (v := m.2.2.2.2.2.1.1 ((4 * k) + 2)) hx hb hK hw 16 rfl ((4 * k) + 2) rfl (by omega) (by decide) rfl dX5_isOut_54 ?_
            refine lv_icmp_lt (tgt := 77) hx hb dX5_isOut_55 (by decide) (fun c_55 => ?_) (fun c_55 => ?_)
            · refine lv_iconst (v := 0) hx hb dX5_isOut_77 (by decide) ?_
              exact join_78 0 (by simp only [mdAcr, if_neg c_25, if_neg c_40, if_pos c_55]) _ _ _ hw (lv_sub hl [0, 1, 2, 3, 4, 5] rfl)
            · refine lv_iload_n hx hb dX5_isOut_58 rfl (lv_at hl 2 rfl) ?_
              refine lv_aload_n hx hb dX5_isOut_59 rfl (lv_at hl 0 rfl) ?_
              refine r_get (ci := 5) (v := .ref (a 16)) (C := RX5) (T := TX5) (N := 29) hx hb hts wiX5_isOut_isout_X5 hown hK hw 0 rfl rfl 23 (by decide) wmX5_isOut_isout_4 (fun _ h9 => h9) rfl dX5_isOut_60 ?_
              refine lv_iconst (v := 4) hx hb dX5_isOut_63 (by decide) ?_
              refine lv_iload hx hb dX5_isOut_64 (lv_at hl 5 rfl) ?_
              refine lv_imul hx hb dX5_isOut_66 ?_
              refine r_top (y := nI (4 * k)) (pk_mul 4 k) ?_
              refine lv_iconst (v := 3) hx hb dX5_isOut_67 (by decide) ?_
              refine lv_iadd hx hb dX5_isOut_68 ?_
              refine r_top (y := nI ((4 * k) + 3)) (nI_add (4 * k) 3) ?_
              refine r_iald (v := m.2.2.2.2.2.1.1 ((4 * k) + 3)) hx hb hK hw 16 rfl ((4 * k) + 3) rfl (by omega) (by decide) rfl dX5_isOut_69 ?_
              refine lv_icmp_ge (tgt := 77) hx hb dX5_isOut_70 (by decide) (fun c_70 => ?_) (fun c_70 => ?_)
              · refine lv_iconst (v := 0) hx hb dX5_isOut_77 (by decide) ?_
                exact join_78 0 (by simp only [mdAcr, if_neg c_25, if_neg c_40, if_neg c_55, if_pos c_70]) _ _ _ hw (lv_sub hl [0, 1, 2, 3, 4, 5] rfl)
              · refine lv_iconst (v := 1) hx hb dX5_isOut_73 (by decide) ?_
                refine lv_goto (tgt := 78) hx hb dX5_isOut_74 (by decide) ?_
                exact join_78 1 (by simp only [mdAcr, if_neg c_25, if_neg c_40, if_neg c_55, if_neg c_70]) _ _ _ hw (lv_sub hl [0, 1, 2, 3, 4, 5] rfl)
  exact loop_6 ((m.2.2.2.2.1.2.2.2.2.1 - 0) + 1) 0 (Nat.lt_succ_self _) (by first | assumption | omega | rfl) _ _ _ hw (lv_sub hl [2, 3, 4, 5, 1, 0] rfl)

theorem wiX5_out_out_X5 : ∀ w ∈ wsX50, w ∈ wsX5_out := by decide +kernel
theorem wmX5_out_out_0 : Cond.fieldLink RX5 134 "PartSketchModel" "pockets" "I" ∈ wsX5_out := by decide +kernel
theorem wmX5_out_out_1 : Cond.fieldLink RX5 65 "PartSketchModel" "cutX" "[I" ∈ wsX5_out := by decide +kernel
theorem wmX5_out_out_2 : Cond.fieldLink RX5 68 "PartSketchModel" "cutY" "[I" ∈ wsX5_out := by decide +kernel
theorem wmX5_out_out_3 : Cond.fieldLink RX5 71 "PartSketchModel" "cutZ" "[I" ∈ wsX5_out := by decide +kernel
theorem wmX5_out_out_4 : Cond.fieldLink RX5 62 "PartSketchModel" "failing" "[Z" ∈ wsX5_out := by decide +kernel
theorem wmX5_out_out_5 : Cond.fieldLink RX5 56 "PartSketchModel" "side" "[I" ∈ wsX5_out := by decide +kernel
theorem wmX5_out_out_6 : Cond.fieldLink RX5 59 "PartSketchModel" "begins" "[I" ∈ wsX5_out := by decide +kernel
theorem wmX5_out_out_7 : Cond.fieldLink RX5 50 "PartSketchModel" "depth" "[I" ∈ wsX5_out := by decide +kernel
set_option maxHeartbeats 4000000 in
set_option maxRecDepth 100000 in
/-- out -/
theorem c_out (l : Launch) (G : gT) (a : aMd) (m : tMd) (hnk : m.2.2.2.2.1.2.2.2.2.1 ≤ 8) (sz : Nat) : MI l yX5_out wsX5_out ({ frames := 1, cells := 0, slots := 0, locals := 26 }) G [.ref (a 0)] (wMd G a m) (wMd G a (m.1, m.2.1, m.2.2.1, m.2.2.2.1, m.2.2.2.2.1, m.2.2.2.2.2.1, (mdCuts m.2.2.2.2.1 m.2.2.2.2.2.1 m.2.2.2.2.2.2))) sz (mdOut m.2.2.2.2.1 m.2.2.2.2.2.1 m.2.2.2.2.2.2) 0 0 := by
  refine m_of (Qc := fun A9 => (va_Qi (fun (r9 : Int32) (_ : Unit) => r9 = (mdOut m.2.2.2.2.1 m.2.2.2.2.2.1 m.2.2.2.2.2.2)) (fun _ t9 => wPost G A9 (wMd G a (m.1, m.2.1, m.2.2.1, m.2.2.2.1, m.2.2.2.2.1, m.2.2.2.2.2.1, (mdCuts m.2.2.2.2.1 m.2.2.2.2.2.1 m.2.2.2.2.2.2))) t9) A9)) (cc := cX5_out) (maxL := 7) (ret := (some .int)) (by decide) rfl (Nat.le_of_ble_eq_true rfl) ?_
  intro p9 e9 s9 m9 A9 be9 mt9 c9 H locs ls hx hb hr hts hown hlocks hin hml hK hA hw hl
  have hl : lv_has ls 7 [(0, .ref (a 0))] := hl
  refine lv_iconst (v := 0) hx hb dX5_out_0 (by decide) ?_
  refine lv_istore_n (lv' := [(1, .int 0), (0, .ref (a 0))]) hx hb dX5_out_1 rfl hl (by decide) rfl (fun ls hl => ?_)
  refine lv_iconst (v := 0) hx hb dX5_out_2 (by decide) ?_
  refine lv_istore_n (lv' := [(2, .int 0), (1, .int 0), (0, .ref (a 0))]) hx hb dX5_out_3 rfl hl (by decide) rfl (fun ls hl => ?_)
  have loop_4 : ∀ (nf : Nat) (k : Nat) (hnf : (m.2.2.2.2.1.2.2.2.2.1 - k) < nf) (hk : k ≤ m.2.2.2.2.1.2.2.2.2.1), ∀ (H : Heap) (locs : List Loc) (ls : Array Slot), wW G A9 s9.heap (wMd G a (m.1, m.2.1, m.2.2.1, m.2.2.2.1, m.2.2.2.2.1, m.2.2.2.2.2.1, (mdFillK m.2.2.2.2.1 m.2.2.2.2.2.1 m.2.2.2.2.2.2 k).2)) H locs → lv_has ls 7 [(0, .ref (a 0)), (1, .int (nI (mdFillK m.2.2.2.2.1 m.2.2.2.2.2.1 m.2.2.2.2.2.2 k).1)), (2, .int (nI k))] → W p9 l e9 ({ frames := 1, cells := 0, slots := 0, locals := 26 }) s9 m9 [.ref (a 0)].toArray be9 mt9 c9 H locs 0 0 (MQ be9 (va_Qi (fun (r9 : Int32) (_ : Unit) => r9 = (mdOut m.2.2.2.2.1 m.2.2.2.2.2.1 m.2.2.2.2.2.2)) (fun _ t9 => wPost G A9 (wMd G a (m.1, m.2.1, m.2.2.1, m.2.2.2.1, m.2.2.2.2.1, m.2.2.2.2.2.1, (mdCuts m.2.2.2.2.1 m.2.2.2.2.2.1 m.2.2.2.2.2.2))) t9) A9) [.ref (a 0)].toArray s9 0 0 A9) (F0 m9 4 ls []) := by
    intro nf
    induction nf with
    | zero => intro k hnf hk; exact absurd hnf (Nat.not_lt_zero _)
    | succ nf ih_4 =>
      intro k hnf hk H locs ls hw hl
      refine lv_iload_n hx hb dX5_out_4 rfl (lv_at hl 2 rfl) ?_
      refine lv_aload_n hx hb dX5_out_5 rfl (lv_at hl 0 rfl) ?_
      refine r_get (ci := 5) (v := .int (nI m.2.2.2.2.1.2.2.2.2.1)) (C := RX5) (T := TX5) (N := 29) hx hb hts wiX5_out_out_X5 hown hK hw 0 rfl rfl 18 (by decide) wmX5_out_out_0 (fun _ h9 => h9) rfl dX5_out_6 ?_
      refine lv_icmp_ge (tgt := 129) hx hb dX5_out_9 (by decide) (fun c_9 => ?_) (fun c_9 => ?_)
      · have hx_9 : m.2.2.2.2.1.2.2.2.2.1 ≤ k := ct_ge (k := k) (n := m.2.2.2.2.1.2.2.2.2.1) (by omega) (by omega) c_9
        have hkn : k = m.2.2.2.2.1.2.2.2.2.1 := by omega
        subst hkn
        have hl : lv_has ls 7 [(0, .ref (a 0)), (1, .int (nI (mdMany m.2.2.2.2.1 m.2.2.2.2.2.1 m.2.2.2.2.2.2)))] := lv_sub hl [0, 1] rfl
        have hle : mdMany m.2.2.2.2.1 m.2.2.2.2.2.1 m.2.2.2.2.2.2 ≤ 16 := Nat.le_trans (mdFillK_le _ _ _ _) (by omega)
        refine lv_aload_n hx hb dX5_out_129 rfl (lv_at hl 0 rfl) ?_
        refine r_get (ci := 5) (v := .ref (a 19)) (C := RX5) (T := TX5) (N := 29) hx hb hts wiX5_out_out_X5 hown hK hw 0 rfl rfl 26 (by decide) wmX5_out_out_1 (fun _ h9 => h9) rfl dX5_out_130 ?_
        refine lv_iload_n hx hb dX5_out_133 rfl (lv_at hl 1 rfl) ?_
        have hwc : wW G A9 s9.heap (([] : va_W) ++ ((wMd G a (m.1, m.2.1, m.2.2.1, m.2.2.2.1, m.2.2.2.2.1, m.2.2.2.2.2.1, (mdFillK m.2.2.2.2.1 m.2.2.2.2.2.1 m.2.2.2.2.2.2 m.2.2.2.2.1.2.2.2.2.1).2)) ++ ([] : va_W))) H locs := hw
        refine r_callv (u := ([] : va_W)) (w := wMd G a (m.1, m.2.1, m.2.2.1, m.2.2.2.1, m.2.2.2.2.1, m.2.2.2.2.2.1, (mdFillK m.2.2.2.2.1 m.2.2.2.2.2.1 m.2.2.2.2.2.2 m.2.2.2.2.1.2.2.2.2.1).2)) (v := ([] : va_W)) (va_runS (As := [.ref (a 19), .int (nI (mdMany m.2.2.2.2.1 m.2.2.2.2.2.1 m.2.2.2.2.2.2))]) (rest := []) ⟨hx, hb, hml, hown, hts⟩ (c_sorts_cx l G a (m.1, m.2.1, m.2.2.1, m.2.2.2.1, m.2.2.2.2.1, m.2.2.2.2.2.1, (mdFillK m.2.2.2.2.1 m.2.2.2.2.2.1 m.2.2.2.2.2.2 m.2.2.2.2.1.2.2.2.2.1).2) (mdMany m.2.2.2.2.1 m.2.2.2.2.2.1 m.2.2.2.2.2.2) (by first | assumption | omega | decide) H.size) (va_cwS 2 hts gX5_out_X5_sorts rfl rfl rfl (by decide +kernel) ⟨Nat.le_of_ble_eq_true rfl, Nat.le_of_ble_eq_true rfl⟩) (r_preS hK hwc) rfl rfl hl.1 rfl (lv_room (Nat.le_of_ble_eq_true rfl)) dX5_out_134 ⟨Nat.le_of_ble_eq_true rfl, Nat.le_of_ble_eq_true rfl⟩) hwc hA rfl rfl (fun H locs hw => ?_)
        have hw : wW G A9 s9.heap (wMd G a (m.1, m.2.1, m.2.2.1, m.2.2.2.1, m.2.2.2.2.1, m.2.2.2.2.2.1, ((srtK ((mdFillK m.2.2.2.2.1 m.2.2.2.2.2.1 m.2.2.2.2.2.2 m.2.2.2.2.1.2.2.2.2.1).2).1 ((mdMany m.2.2.2.2.1 m.2.2.2.2.2.1 m.2.2.2.2.2.2) - 1)), (mdFillK m.2.2.2.2.1 m.2.2.2.2.2.1 m.2.2.2.2.2.2 m.2.2.2.2.1.2.2.2.2.1).2.2.1, (mdFillK m.2.2.2.2.1 m.2.2.2.2.2.1 m.2.2.2.2.2.2 m.2.2.2.2.1.2.2.2.2.1).2.2.2))) H locs := hw
        refine lv_aload_n hx hb dX5_out_137 rfl (lv_at hl 0 rfl) ?_
        refine r_get (ci := 5) (v := .ref (a 20)) (C := RX5) (T := TX5) (N := 29) hx hb hts wiX5_out_out_X5 hown hK hw 0 rfl rfl 27 (by decide) wmX5_out_out_2 (fun _ h9 => h9) rfl dX5_out_138 ?_
        refine lv_iload_n hx hb dX5_out_141 rfl (lv_at hl 1 rfl) ?_
        have hwc : wW G A9 s9.heap (([] : va_W) ++ ((wMd G a (m.1, m.2.1, m.2.2.1, m.2.2.2.1, m.2.2.2.2.1, m.2.2.2.2.2.1, ((srtK ((mdFillK m.2.2.2.2.1 m.2.2.2.2.2.1 m.2.2.2.2.2.2 m.2.2.2.2.1.2.2.2.2.1).2).1 ((mdMany m.2.2.2.2.1 m.2.2.2.2.2.1 m.2.2.2.2.2.2) - 1)), (mdFillK m.2.2.2.2.1 m.2.2.2.2.2.1 m.2.2.2.2.2.2 m.2.2.2.2.1.2.2.2.2.1).2.2.1, (mdFillK m.2.2.2.2.1 m.2.2.2.2.2.1 m.2.2.2.2.2.2 m.2.2.2.2.1.2.2.2.2.1).2.2.2))) ++ ([] : va_W))) H locs := hw
        refine r_callv (u := ([] : va_W)) (w := wMd G a (m.1, m.2.1, m.2.2.1, m.2.2.2.1, m.2.2.2.2.1, m.2.2.2.2.2.1, ((srtK ((mdFillK m.2.2.2.2.1 m.2.2.2.2.2.1 m.2.2.2.2.2.2 m.2.2.2.2.1.2.2.2.2.1).2).1 ((mdMany m.2.2.2.2.1 m.2.2.2.2.2.1 m.2.2.2.2.2.2) - 1)), (mdFillK m.2.2.2.2.1 m.2.2.2.2.2.1 m.2.2.2.2.2.2 m.2.2.2.2.1.2.2.2.2.1).2.2.1, (mdFillK m.2.2.2.2.1 m.2.2.2.2.2.1 m.2.2.2.2.2.2 m.2.2.2.2.1.2.2.2.2.1).2.2.2))) (v := ([] : va_W)) (va_runS (As := [.ref (a 20), .int (nI (mdMany m.2.2.2.2.1 m.2.2.2.2.2.1 m.2.2.2.2.2.2))]) (rest := []) ⟨hx, hb, hml, hown, hts⟩ (c_sorts_cy l G a (m.1, m.2.1, m.2.2.1, m.2.2.2.1, m.2.2.2.2.1, m.2.2.2.2.2.1, ((srtK ((mdFillK m.2.2.2.2.1 m.2.2.2.2.2.1 m.2.2.2.2.2.2 m.2.2.2.2.1.2.2.2.2.1).2).1 ((mdMany m.2.2.2.2.1 m.2.2.2.2.2.1 m.2.2.2.2.2.2) - 1)), (mdFillK m.2.2.2.2.1 m.2.2.2.2.2.1 m.2.2.2.2.2.2 m.2.2.2.2.1.2.2.2.2.1).2.2.1, (mdFillK m.2.2.2.2.1 m.2.2.2.2.2.1 m.2.2.2.2.2.2 m.2.2.2.2.1.2.2.2.2.1).2.2.2)) (mdMany m.2.2.2.2.1 m.2.2.2.2.2.1 m.2.2.2.2.2.2) (by first | assumption | omega | decide) H.size) (va_cwS 2 hts gX5_out_X5_sorts rfl rfl rfl (by decide +kernel) ⟨Nat.le_of_ble_eq_true rfl, Nat.le_of_ble_eq_true rfl⟩) (r_preS hK hwc) rfl rfl hl.1 rfl (lv_room (Nat.le_of_ble_eq_true rfl)) dX5_out_142 ⟨Nat.le_of_ble_eq_true rfl, Nat.le_of_ble_eq_true rfl⟩) hwc hA rfl rfl (fun H locs hw => ?_)
        have hw : wW G A9 s9.heap (wMd G a (m.1, m.2.1, m.2.2.1, m.2.2.2.1, m.2.2.2.2.1, m.2.2.2.2.2.1, ((srtK ((mdFillK m.2.2.2.2.1 m.2.2.2.2.2.1 m.2.2.2.2.2.2 m.2.2.2.2.1.2.2.2.2.1).2).1 ((mdMany m.2.2.2.2.1 m.2.2.2.2.2.1 m.2.2.2.2.2.2) - 1)), (srtK ((mdFillK m.2.2.2.2.1 m.2.2.2.2.2.1 m.2.2.2.2.2.2 m.2.2.2.2.1.2.2.2.2.1).2.2.1) ((mdMany m.2.2.2.2.1 m.2.2.2.2.2.1 m.2.2.2.2.2.2) - 1)), (mdFillK m.2.2.2.2.1 m.2.2.2.2.2.1 m.2.2.2.2.2.2 m.2.2.2.2.1.2.2.2.2.1).2.2.2))) H locs := hw
        refine lv_aload_n hx hb dX5_out_145 rfl (lv_at hl 0 rfl) ?_
        refine r_get (ci := 5) (v := .ref (a 21)) (C := RX5) (T := TX5) (N := 29) hx hb hts wiX5_out_out_X5 hown hK hw 0 rfl rfl 28 (by decide) wmX5_out_out_3 (fun _ h9 => h9) rfl dX5_out_146 ?_
        refine lv_iload_n hx hb dX5_out_149 rfl (lv_at hl 1 rfl) ?_
        have hwc : wW G A9 s9.heap (([] : va_W) ++ ((wMd G a (m.1, m.2.1, m.2.2.1, m.2.2.2.1, m.2.2.2.2.1, m.2.2.2.2.2.1, ((srtK ((mdFillK m.2.2.2.2.1 m.2.2.2.2.2.1 m.2.2.2.2.2.2 m.2.2.2.2.1.2.2.2.2.1).2).1 ((mdMany m.2.2.2.2.1 m.2.2.2.2.2.1 m.2.2.2.2.2.2) - 1)), (srtK ((mdFillK m.2.2.2.2.1 m.2.2.2.2.2.1 m.2.2.2.2.2.2 m.2.2.2.2.1.2.2.2.2.1).2.2.1) ((mdMany m.2.2.2.2.1 m.2.2.2.2.2.1 m.2.2.2.2.2.2) - 1)), (mdFillK m.2.2.2.2.1 m.2.2.2.2.2.1 m.2.2.2.2.2.2 m.2.2.2.2.1.2.2.2.2.1).2.2.2))) ++ ([] : va_W))) H locs := hw
        refine r_callv (u := ([] : va_W)) (w := wMd G a (m.1, m.2.1, m.2.2.1, m.2.2.2.1, m.2.2.2.2.1, m.2.2.2.2.2.1, ((srtK ((mdFillK m.2.2.2.2.1 m.2.2.2.2.2.1 m.2.2.2.2.2.2 m.2.2.2.2.1.2.2.2.2.1).2).1 ((mdMany m.2.2.2.2.1 m.2.2.2.2.2.1 m.2.2.2.2.2.2) - 1)), (srtK ((mdFillK m.2.2.2.2.1 m.2.2.2.2.2.1 m.2.2.2.2.2.2 m.2.2.2.2.1.2.2.2.2.1).2.2.1) ((mdMany m.2.2.2.2.1 m.2.2.2.2.2.1 m.2.2.2.2.2.2) - 1)), (mdFillK m.2.2.2.2.1 m.2.2.2.2.2.1 m.2.2.2.2.2.2 m.2.2.2.2.1.2.2.2.2.1).2.2.2))) (v := ([] : va_W)) (va_runS (As := [.ref (a 21), .int (nI (mdMany m.2.2.2.2.1 m.2.2.2.2.2.1 m.2.2.2.2.2.2))]) (rest := []) ⟨hx, hb, hml, hown, hts⟩ (c_sorts_cz l G a (m.1, m.2.1, m.2.2.1, m.2.2.2.1, m.2.2.2.2.1, m.2.2.2.2.2.1, ((srtK ((mdFillK m.2.2.2.2.1 m.2.2.2.2.2.1 m.2.2.2.2.2.2 m.2.2.2.2.1.2.2.2.2.1).2).1 ((mdMany m.2.2.2.2.1 m.2.2.2.2.2.1 m.2.2.2.2.2.2) - 1)), (srtK ((mdFillK m.2.2.2.2.1 m.2.2.2.2.2.1 m.2.2.2.2.2.2 m.2.2.2.2.1.2.2.2.2.1).2.2.1) ((mdMany m.2.2.2.2.1 m.2.2.2.2.2.1 m.2.2.2.2.2.2) - 1)), (mdFillK m.2.2.2.2.1 m.2.2.2.2.2.1 m.2.2.2.2.2.2 m.2.2.2.2.1.2.2.2.2.1).2.2.2)) (mdMany m.2.2.2.2.1 m.2.2.2.2.2.1 m.2.2.2.2.2.2) (by first | assumption | omega | decide) H.size) (va_cwS 2 hts gX5_out_X5_sorts rfl rfl rfl (by decide +kernel) ⟨Nat.le_of_ble_eq_true rfl, Nat.le_of_ble_eq_true rfl⟩) (r_preS hK hwc) rfl rfl hl.1 rfl (lv_room (Nat.le_of_ble_eq_true rfl)) dX5_out_150 ⟨Nat.le_of_ble_eq_true rfl, Nat.le_of_ble_eq_true rfl⟩) hwc hA rfl rfl (fun H locs hw => ?_)
        have hw : wW G A9 s9.heap (wMd G a (m.1, m.2.1, m.2.2.1, m.2.2.2.1, m.2.2.2.2.1, m.2.2.2.2.2.1, ((srtK ((mdFillK m.2.2.2.2.1 m.2.2.2.2.2.1 m.2.2.2.2.2.2 m.2.2.2.2.1.2.2.2.2.1).2).1 ((mdMany m.2.2.2.2.1 m.2.2.2.2.2.1 m.2.2.2.2.2.2) - 1)), (srtK ((mdFillK m.2.2.2.2.1 m.2.2.2.2.2.1 m.2.2.2.2.2.2 m.2.2.2.2.1.2.2.2.2.1).2.2.1) ((mdMany m.2.2.2.2.1 m.2.2.2.2.2.1 m.2.2.2.2.2.2) - 1)), (srtK ((mdFillK m.2.2.2.2.1 m.2.2.2.2.2.1 m.2.2.2.2.2.2 m.2.2.2.2.1.2.2.2.2.1).2.2.2) ((mdMany m.2.2.2.2.1 m.2.2.2.2.2.1 m.2.2.2.2.2.2) - 1))))) H locs := hw
        refine lv_iconst (v := 0) hx hb dX5_out_153 (by decide) ?_
        refine lv_istore_n (lv' := [(2, .int 0), (0, .ref (a 0)), (1, .int (nI (mdMany m.2.2.2.2.1 m.2.2.2.2.2.1 m.2.2.2.2.2.2)))]) hx hb dX5_out_154 rfl hl (by decide) rfl (fun ls hl => ?_)
        refine lv_iconst (v := 0) hx hb dX5_out_155 (by decide) ?_
        refine lv_istore_n (lv' := [(3, .int 0), (2, .int 0), (0, .ref (a 0)), (1, .int (nI (mdMany m.2.2.2.2.1 m.2.2.2.2.2.1 m.2.2.2.2.2.2)))]) hx hb dX5_out_156 rfl hl (by decide) rfl (fun ls hl => ?_)
        have loop_157 : ∀ (nf : Nat) (i : Nat) (hnf : (mdMany m.2.2.2.2.1 m.2.2.2.2.2.1 m.2.2.2.2.2.2 - i) < nf) (hi : i ≤ mdMany m.2.2.2.2.1 m.2.2.2.2.2.1 m.2.2.2.2.2.2 - 1), ∀ (H : Heap) (locs : List Loc) (ls : Array Slot), wW G A9 s9.heap (wMd G a (m.1, m.2.1, m.2.2.1, m.2.2.2.1, m.2.2.2.2.1, m.2.2.2.2.2.1, (mdCuts m.2.2.2.2.1 m.2.2.2.2.2.1 m.2.2.2.2.2.2))) H locs → lv_has ls 7 [(0, .ref (a 0)), (1, .int (nI (mdMany m.2.2.2.2.1 m.2.2.2.2.2.1 m.2.2.2.2.2.2))), (2, .int (mdO1 m.2.2.2.2.1 m.2.2.2.2.2.1 (mdCuts m.2.2.2.2.1 m.2.2.2.2.2.1 m.2.2.2.2.2.2) (mdMany m.2.2.2.2.1 m.2.2.2.2.2.1 m.2.2.2.2.2.2) i)), (3, .int (nI i))] → W p9 l e9 ({ frames := 1, cells := 0, slots := 0, locals := 26 }) s9 m9 [.ref (a 0)].toArray be9 mt9 c9 H locs 0 0 (MQ be9 (va_Qi (fun (r9 : Int32) (_ : Unit) => r9 = (mdOut m.2.2.2.2.1 m.2.2.2.2.2.1 m.2.2.2.2.2.2)) (fun _ t9 => wPost G A9 (wMd G a (m.1, m.2.1, m.2.2.1, m.2.2.2.1, m.2.2.2.2.1, m.2.2.2.2.2.1, (mdCuts m.2.2.2.2.1 m.2.2.2.2.2.1 m.2.2.2.2.2.2))) t9) A9) [.ref (a 0)].toArray s9 0 0 A9) (F0 m9 157 ls []) := by
          intro nf
          induction nf with
          | zero => intro i hnf hi; exact absurd hnf (Nat.not_lt_zero _)
          | succ nf ih_157 =>
            intro i hnf hi H locs ls hw hl
            refine lv_iload_n hx hb dX5_out_157 rfl (lv_at hl 3 rfl) ?_
            refine lv_iconst (v := 1) hx hb dX5_out_158 (by decide) ?_
            refine lv_iadd hx hb dX5_out_159 ?_
            refine r_top (y := nI (i + 1)) (nI_add i 1) ?_
            refine lv_iload_n hx hb dX5_out_160 rfl (lv_at hl 1 rfl) ?_
            refine lv_icmp_ge (tgt := 298) hx hb dX5_out_161 (by decide) (fun c_161 => ?_) (fun c_161 => ?_)
            · have hx_161 : mdMany m.2.2.2.2.1 m.2.2.2.2.2.1 m.2.2.2.2.2.2 ≤ i + 1 := ct_ge (k := i + 1) (n := mdMany m.2.2.2.2.1 m.2.2.2.2.2.1 m.2.2.2.2.2.2) (by omega) (by omega) c_161
              refine lv_iload_n hx hb dX5_out_298 rfl (lv_at hl 2 rfl) ?_
              exact m_iret hx hb hr hlocks hK hw (Nat.le_of_ble_eq_true rfl) (Nat.le_of_ble_eq_true rfl) dX5_out_299 (show (mdO1 m.2.2.2.2.1 m.2.2.2.2.2.1 (mdCuts m.2.2.2.2.1 m.2.2.2.2.2.1 m.2.2.2.2.2.2) (mdMany m.2.2.2.2.1 m.2.2.2.2.2.1 m.2.2.2.2.2.2) i : Int32) = mdOut m.2.2.2.2.1 m.2.2.2.2.2.1 m.2.2.2.2.2.2 by rw [show i = mdMany m.2.2.2.2.1 m.2.2.2.2.2.1 m.2.2.2.2.2.2 - 1 by omega]; rfl) rfl
            · have hc_161 : i + 1 < mdMany m.2.2.2.2.1 m.2.2.2.2.2.1 m.2.2.2.2.2.2 := ct_nge (k := i + 1) (n := mdMany m.2.2.2.2.1 m.2.2.2.2.2.1 m.2.2.2.2.2.2) (by omega) (by omega) c_161
              refine lv_iconst (v := 0) hx hb dX5_out_164 (by decide) ?_
              refine lv_istore (lv' := [(4, .int 0), (0, .ref (a 0)), (1, .int (nI (mdMany m.2.2.2.2.1 m.2.2.2.2.2.1 m.2.2.2.2.2.2))), (2, .int (mdO1 m.2.2.2.2.1 m.2.2.2.2.2.1 (mdCuts m.2.2.2.2.1 m.2.2.2.2.2.1 m.2.2.2.2.2.2) (mdMany m.2.2.2.2.1 m.2.2.2.2.2.1 m.2.2.2.2.2.2) i)), (3, .int (nI i))]) hx hb dX5_out_165 hl (by decide) rfl (fun ls hl => ?_)
              have loop_167 : ∀ (nf : Nat) (j : Nat) (hnf : (mdMany m.2.2.2.2.1 m.2.2.2.2.2.1 m.2.2.2.2.2.2 - j) < nf) (hj : j ≤ mdMany m.2.2.2.2.1 m.2.2.2.2.2.1 m.2.2.2.2.2.2 - 1), ∀ (H : Heap) (locs : List Loc) (ls : Array Slot), wW G A9 s9.heap (wMd G a (m.1, m.2.1, m.2.2.1, m.2.2.2.1, m.2.2.2.2.1, m.2.2.2.2.2.1, (mdCuts m.2.2.2.2.1 m.2.2.2.2.2.1 m.2.2.2.2.2.2))) H locs → lv_has ls 7 [(0, .ref (a 0)), (1, .int (nI (mdMany m.2.2.2.2.1 m.2.2.2.2.2.1 m.2.2.2.2.2.2))), (2, .int (mdO2 m.2.2.2.2.1 m.2.2.2.2.2.1 (mdCuts m.2.2.2.2.1 m.2.2.2.2.2.1 m.2.2.2.2.2.2) (mdMany m.2.2.2.2.1 m.2.2.2.2.2.1 m.2.2.2.2.2.2) i (mdO1 m.2.2.2.2.1 m.2.2.2.2.2.1 (mdCuts m.2.2.2.2.1 m.2.2.2.2.2.1 m.2.2.2.2.2.2) (mdMany m.2.2.2.2.1 m.2.2.2.2.2.1 m.2.2.2.2.2.2) i) j)), (3, .int (nI i)), (4, .int (nI j))] → W p9 l e9 ({ frames := 1, cells := 0, slots := 0, locals := 26 }) s9 m9 [.ref (a 0)].toArray be9 mt9 c9 H locs 0 0 (MQ be9 (va_Qi (fun (r9 : Int32) (_ : Unit) => r9 = (mdOut m.2.2.2.2.1 m.2.2.2.2.2.1 m.2.2.2.2.2.2)) (fun _ t9 => wPost G A9 (wMd G a (m.1, m.2.1, m.2.2.1, m.2.2.2.1, m.2.2.2.2.1, m.2.2.2.2.2.1, (mdCuts m.2.2.2.2.1 m.2.2.2.2.2.1 m.2.2.2.2.2.2))) t9) A9) [.ref (a 0)].toArray s9 0 0 A9) (F0 m9 167 ls []) := by
                intro nf
                induction nf with
                | zero => intro j hnf hj; exact absurd hnf (Nat.not_lt_zero _)
                | succ nf ih_167 =>
                  intro j hnf hj H locs ls hw hl
                  refine lv_iload hx hb dX5_out_167 (lv_at hl 4 rfl) ?_
                  refine lv_iconst (v := 1) hx hb dX5_out_169 (by decide) ?_
                  refine lv_iadd hx hb dX5_out_170 ?_
                  refine r_top (y := nI (j + 1)) (nI_add j 1) ?_
                  refine lv_iload_n hx hb dX5_out_171 rfl (lv_at hl 1 rfl) ?_
                  refine lv_icmp_ge (tgt := 292) hx hb dX5_out_172 (by decide) (fun c_172 => ?_) (fun c_172 => ?_)
                  · have hx_172 : mdMany m.2.2.2.2.1 m.2.2.2.2.2.1 m.2.2.2.2.2.2 ≤ j + 1 := ct_ge (k := j + 1) (n := mdMany m.2.2.2.2.1 m.2.2.2.2.2.1 m.2.2.2.2.2.2) (by omega) (by omega) c_172
                    refine lv_iinc (v := nI (i + 1)) (lv' := [(3, .int (nI (i + 1))), (0, .ref (a 0)), (1, .int (nI (mdMany m.2.2.2.2.1 m.2.2.2.2.2.1 m.2.2.2.2.2.2))), (2, .int (mdO2 m.2.2.2.2.1 m.2.2.2.2.2.1 (mdCuts m.2.2.2.2.1 m.2.2.2.2.2.1 m.2.2.2.2.2.2) (mdMany m.2.2.2.2.1 m.2.2.2.2.2.1 m.2.2.2.2.2.2) i (mdO1 m.2.2.2.2.1 m.2.2.2.2.2.1 (mdCuts m.2.2.2.2.1 m.2.2.2.2.2.1 m.2.2.2.2.2.2) (mdMany m.2.2.2.2.1 m.2.2.2.2.2.1 m.2.2.2.2.2.2) i) j)), (4, .int (nI j))]) hx hb dX5_out_292 hl (k := 3) rfl (nI_add i 1) (by decide) rfl (fun ls hl => ?_)
                    refine lv_goto (tgt := 157) hx hb dX5_out_295 (by decide) ?_
                    exact ih_157 (i + 1) (by omega) (by first | assumption | omega | rfl) _ _ _ hw (lv_sub hl [1, 2, 3, 0] (show lv_pick [(3, .int (nI (i + 1))), (0, .ref (a 0)), (1, .int (nI (mdMany m.2.2.2.2.1 m.2.2.2.2.2.1 m.2.2.2.2.2.2))), (2, .int (mdO2 m.2.2.2.2.1 m.2.2.2.2.2.1 (mdCuts m.2.2.2.2.1 m.2.2.2.2.2.1 m.2.2.2.2.2.2) (mdMany m.2.2.2.2.1 m.2.2.2.2.2.1 m.2.2.2.2.2.2) i (mdO1 m.2.2.2.2.1 m.2.2.2.2.2.1 (mdCuts m.2.2.2.2.1 m.2.2.2.2.2.1 m.2.2.2.2.2.2) (mdMany m.2.2.2.2.1 m.2.2.2.2.2.1 m.2.2.2.2.2.2) i) j)), (4, .int (nI j))] [1, 2, 3, 0] = [(0, .ref (a 0)), (1, .int (nI (mdMany m.2.2.2.2.1 m.2.2.2.2.2.1 m.2.2.2.2.2.2))), (2, .int (mdO1 m.2.2.2.2.1 m.2.2.2.2.2.1 (mdCuts m.2.2.2.2.1 m.2.2.2.2.2.1 m.2.2.2.2.2.2) (mdMany m.2.2.2.2.1 m.2.2.2.2.2.1 m.2.2.2.2.2.2) (i + 1))), (3, .int (nI (i + 1)))] by rw [show j = mdMany m.2.2.2.2.1 m.2.2.2.2.2.1 m.2.2.2.2.2.2 - 1 by omega]; rfl))
                  · have hc_172 : j + 1 < mdMany m.2.2.2.2.1 m.2.2.2.2.2.1 m.2.2.2.2.2.2 := ct_nge (k := j + 1) (n := mdMany m.2.2.2.2.1 m.2.2.2.2.2.1 m.2.2.2.2.2.2) (by omega) (by omega) c_172
                    refine lv_iconst (v := 0) hx hb dX5_out_175 (by decide) ?_
                    refine lv_istore (lv' := [(5, .int 0), (0, .ref (a 0)), (1, .int (nI (mdMany m.2.2.2.2.1 m.2.2.2.2.2.1 m.2.2.2.2.2.2))), (2, .int (mdO2 m.2.2.2.2.1 m.2.2.2.2.2.1 (mdCuts m.2.2.2.2.1 m.2.2.2.2.2.1 m.2.2.2.2.2.2) (mdMany m.2.2.2.2.1 m.2.2.2.2.2.1 m.2.2.2.2.2.2) i (mdO1 m.2.2.2.2.1 m.2.2.2.2.2.1 (mdCuts m.2.2.2.2.1 m.2.2.2.2.2.1 m.2.2.2.2.2.2) (mdMany m.2.2.2.2.1 m.2.2.2.2.2.1 m.2.2.2.2.2.2) i) j)), (3, .int (nI i)), (4, .int (nI j))]) hx hb dX5_out_176 hl (by decide) rfl (fun ls hl => ?_)
                    have loop_178 : ∀ (nf : Nat) (q : Nat) (hnf : (mdMany m.2.2.2.2.1 m.2.2.2.2.2.1 m.2.2.2.2.2.2 - q) < nf) (hq : q ≤ mdMany m.2.2.2.2.1 m.2.2.2.2.2.1 m.2.2.2.2.2.2 - 1), ∀ (H : Heap) (locs : List Loc) (ls : Array Slot), wW G A9 s9.heap (wMd G a (m.1, m.2.1, m.2.2.1, m.2.2.2.1, m.2.2.2.2.1, m.2.2.2.2.2.1, (mdCuts m.2.2.2.2.1 m.2.2.2.2.2.1 m.2.2.2.2.2.2))) H locs → lv_has ls 7 [(0, .ref (a 0)), (1, .int (nI (mdMany m.2.2.2.2.1 m.2.2.2.2.2.1 m.2.2.2.2.2.2))), (2, .int (mdO3 m.2.2.2.2.1 m.2.2.2.2.2.1 (mdCuts m.2.2.2.2.1 m.2.2.2.2.2.1 m.2.2.2.2.2.2) i j (mdO2 m.2.2.2.2.1 m.2.2.2.2.2.1 (mdCuts m.2.2.2.2.1 m.2.2.2.2.2.1 m.2.2.2.2.2.2) (mdMany m.2.2.2.2.1 m.2.2.2.2.2.1 m.2.2.2.2.2.2) i (mdO1 m.2.2.2.2.1 m.2.2.2.2.2.1 (mdCuts m.2.2.2.2.1 m.2.2.2.2.2.1 m.2.2.2.2.2.2) (mdMany m.2.2.2.2.1 m.2.2.2.2.2.1 m.2.2.2.2.2.2) i) j) q)), (3, .int (nI i)), (4, .int (nI j)), (5, .int (nI q))] → W p9 l e9 ({ frames := 1, cells := 0, slots := 0, locals := 26 }) s9 m9 [.ref (a 0)].toArray be9 mt9 c9 H locs 0 0 (MQ be9 (va_Qi (fun (r9 : Int32) (_ : Unit) => r9 = (mdOut m.2.2.2.2.1 m.2.2.2.2.2.1 m.2.2.2.2.2.2)) (fun _ t9 => wPost G A9 (wMd G a (m.1, m.2.1, m.2.2.1, m.2.2.2.1, m.2.2.2.2.1, m.2.2.2.2.2.1, (mdCuts m.2.2.2.2.1 m.2.2.2.2.2.1 m.2.2.2.2.2.2))) t9) A9) [.ref (a 0)].toArray s9 0 0 A9) (F0 m9 178 ls []) := by
                      intro nf
                      induction nf with
                      | zero => intro q hnf hq; exact absurd hnf (Nat.not_lt_zero _)
                      | succ nf ih_178 =>
                        intro q hnf hq H locs ls hw hl
                        refine lv_iload hx hb dX5_out_178 (lv_at hl 5 rfl) ?_
                        refine lv_iconst (v := 1) hx hb dX5_out_180 (by decide) ?_
                        refine lv_iadd hx hb dX5_out_181 ?_
                        refine r_top (y := nI (q + 1)) (nI_add q 1) ?_
                        refine lv_iload_n hx hb dX5_out_182 rfl (lv_at hl 1 rfl) ?_
                        refine lv_icmp_ge (tgt := 286) hx hb dX5_out_183 (by decide) (fun c_183 => ?_) (fun c_183 => ?_)
                        · have hx_183 : mdMany m.2.2.2.2.1 m.2.2.2.2.2.1 m.2.2.2.2.2.2 ≤ q + 1 := ct_ge (k := q + 1) (n := mdMany m.2.2.2.2.1 m.2.2.2.2.2.1 m.2.2.2.2.2.2) (by omega) (by omega) c_183
                          refine lv_iinc (v := nI (j + 1)) (lv' := [(4, .int (nI (j + 1))), (0, .ref (a 0)), (1, .int (nI (mdMany m.2.2.2.2.1 m.2.2.2.2.2.1 m.2.2.2.2.2.2))), (2, .int (mdO3 m.2.2.2.2.1 m.2.2.2.2.2.1 (mdCuts m.2.2.2.2.1 m.2.2.2.2.2.1 m.2.2.2.2.2.2) i j (mdO2 m.2.2.2.2.1 m.2.2.2.2.2.1 (mdCuts m.2.2.2.2.1 m.2.2.2.2.2.1 m.2.2.2.2.2.2) (mdMany m.2.2.2.2.1 m.2.2.2.2.2.1 m.2.2.2.2.2.2) i (mdO1 m.2.2.2.2.1 m.2.2.2.2.2.1 (mdCuts m.2.2.2.2.1 m.2.2.2.2.2.1 m.2.2.2.2.2.2) (mdMany m.2.2.2.2.1 m.2.2.2.2.2.1 m.2.2.2.2.2.2) i) j) q)), (3, .int (nI i)), (5, .int (nI q))]) hx hb dX5_out_286 hl (k := 4) rfl (nI_add j 1) (by decide) rfl (fun ls hl => ?_)
                          refine lv_goto (tgt := 167) hx hb dX5_out_289 (by decide) ?_
                          exact ih_167 (j + 1) (by omega) (by first | assumption | omega | rfl) _ _ _ hw (lv_sub hl [1, 2, 3, 4, 0] (show lv_pick [(4, .int (nI (j + 1))), (0, .ref (a 0)), (1, .int (nI (mdMany m.2.2.2.2.1 m.2.2.2.2.2.1 m.2.2.2.2.2.2))), (2, .int (mdO3 m.2.2.2.2.1 m.2.2.2.2.2.1 (mdCuts m.2.2.2.2.1 m.2.2.2.2.2.1 m.2.2.2.2.2.2) i j (mdO2 m.2.2.2.2.1 m.2.2.2.2.2.1 (mdCuts m.2.2.2.2.1 m.2.2.2.2.2.1 m.2.2.2.2.2.2) (mdMany m.2.2.2.2.1 m.2.2.2.2.2.1 m.2.2.2.2.2.2) i (mdO1 m.2.2.2.2.1 m.2.2.2.2.2.1 (mdCuts m.2.2.2.2.1 m.2.2.2.2.2.1 m.2.2.2.2.2.2) (mdMany m.2.2.2.2.1 m.2.2.2.2.2.1 m.2.2.2.2.2.2) i) j) q)), (3, .int (nI i)), (5, .int (nI q))] [1, 2, 3, 4, 0] = [(0, .ref (a 0)), (1, .int (nI (mdMany m.2.2.2.2.1 m.2.2.2.2.2.1 m.2.2.2.2.2.2))), (2, .int (mdO2 m.2.2.2.2.1 m.2.2.2.2.2.1 (mdCuts m.2.2.2.2.1 m.2.2.2.2.2.1 m.2.2.2.2.2.2) (mdMany m.2.2.2.2.1 m.2.2.2.2.2.1 m.2.2.2.2.2.2) i (mdO1 m.2.2.2.2.1 m.2.2.2.2.2.1 (mdCuts m.2.2.2.2.1 m.2.2.2.2.2.1 m.2.2.2.2.2.2) (mdMany m.2.2.2.2.1 m.2.2.2.2.2.1 m.2.2.2.2.2.2) i) (j + 1))), (3, .int (nI i)), (4, .int (nI (j + 1)))] by rw [show q = mdMany m.2.2.2.2.1 m.2.2.2.2.2.1 m.2.2.2.2.2.2 - 1 by omega]; rfl))
                        · have hc_183 : q + 1 < mdMany m.2.2.2.2.1 m.2.2.2.2.2.1 m.2.2.2.2.2.2 := ct_nge (k := q + 1) (n := mdMany m.2.2.2.2.1 m.2.2.2.2.2.1 m.2.2.2.2.2.2) (by omega) (by omega) c_183
                          refine lv_aload_n hx hb dX5_out_186 rfl (lv_at hl 0 rfl) ?_
                          refine r_get (ci := 5) (v := .ref (a 19)) (C := RX5) (T := TX5) (N := 29) hx hb hts wiX5_out_out_X5 hown hK hw 0 rfl rfl 26 (by decide) wmX5_out_out_1 (fun _ h9 => h9) rfl dX5_out_187 ?_
                          refine lv_iload_n hx hb dX5_out_190 rfl (lv_at hl 3 rfl) ?_
                          refine lv_iconst (v := 1) hx hb dX5_out_191 (by decide) ?_
                          refine lv_iadd hx hb dX5_out_192 ?_
                          refine r_top (y := nI (i + 1)) (nI_add i 1) ?_
                          refine r_iald (v := ((mdCuts m.2.2.2.2.1 m.2.2.2.2.2.1 m.2.2.2.2.2.2).1) (i + 1)) hx hb hK hw 19 rfl (i + 1) rfl (by omega) (by decide) rfl dX5_out_193 ?_
                          refine lv_aload_n hx hb dX5_out_194 rfl (lv_at hl 0 rfl) ?_
                          refine r_get (ci := 5) (v := .ref (a 19)) (C := RX5) (T := TX5) (N := 29) hx hb hts wiX5_out_out_X5 hown hK hw 0 rfl rfl 26 (by decide) wmX5_out_out_1 (fun _ h9 => h9) rfl dX5_out_195 ?_
                          refine lv_iload_n hx hb dX5_out_198 rfl (lv_at hl 3 rfl) ?_
                          refine r_iald (v := ((mdCuts m.2.2.2.2.1 m.2.2.2.2.2.1 m.2.2.2.2.2.2).1) i) hx hb hK hw 19 rfl i rfl (by omega) (by decide) rfl dX5_out_199 ?_
                          refine lv_isub hx hb dX5_out_200 ?_
                          refine lv_aload_n hx hb dX5_out_201 rfl (lv_at hl 0 rfl) ?_
                          refine r_get (ci := 5) (v := .ref (a 20)) (C := RX5) (T := TX5) (N := 29) hx hb hts wiX5_out_out_X5 hown hK hw 0 rfl rfl 27 (by decide) wmX5_out_out_2 (fun _ h9 => h9) rfl dX5_out_202 ?_
                          refine lv_iload hx hb dX5_out_205 (lv_at hl 4 rfl) ?_
                          refine lv_iconst (v := 1) hx hb dX5_out_207 (by decide) ?_
                          refine lv_iadd hx hb dX5_out_208 ?_
                          refine r_top (y := nI (j + 1)) (nI_add j 1) ?_
                          refine r_iald (v := ((mdCuts m.2.2.2.2.1 m.2.2.2.2.2.1 m.2.2.2.2.2.2).2.1) (j + 1)) hx hb hK hw 20 rfl (j + 1) rfl (by omega) (by decide) rfl dX5_out_209 ?_
                          refine lv_aload_n hx hb dX5_out_210 rfl (lv_at hl 0 rfl) ?_
                          refine r_get (ci := 5) (v := .ref (a 20)) (C := RX5) (T := TX5) (N := 29) hx hb hts wiX5_out_out_X5 hown hK hw 0 rfl rfl 27 (by decide) wmX5_out_out_2 (fun _ h9 => h9) rfl dX5_out_211 ?_
                          refine lv_iload hx hb dX5_out_214 (lv_at hl 4 rfl) ?_
                          refine r_iald (v := ((mdCuts m.2.2.2.2.1 m.2.2.2.2.2.1 m.2.2.2.2.2.2).2.1) j) hx hb hK hw 20 rfl j rfl (by omega) (by decide) rfl dX5_out_216 ?_
                          refine lv_isub hx hb dX5_out_217 ?_
                          refine lv_imul hx hb dX5_out_218 ?_
                          refine lv_aload_n hx hb dX5_out_219 rfl (lv_at hl 0 rfl) ?_
                          refine r_get (ci := 5) (v := .ref (a 21)) (C := RX5) (T := TX5) (N := 29) hx hb hts wiX5_out_out_X5 hown hK hw 0 rfl rfl 28 (by decide) wmX5_out_out_3 (fun _ h9 => h9) rfl dX5_out_220 ?_
                          refine lv_iload hx hb dX5_out_223 (lv_at hl 5 rfl) ?_
                          refine lv_iconst (v := 1) hx hb dX5_out_225 (by decide) ?_
                          refine lv_iadd hx hb dX5_out_226 ?_
                          refine r_top (y := nI (q + 1)) (nI_add q 1) ?_
                          refine r_iald (v := ((mdCuts m.2.2.2.2.1 m.2.2.2.2.2.1 m.2.2.2.2.2.2).2.2) (q + 1)) hx hb hK hw 21 rfl (q + 1) rfl (by omega) (by decide) rfl dX5_out_227 ?_
                          refine lv_aload_n hx hb dX5_out_228 rfl (lv_at hl 0 rfl) ?_
                          refine r_get (ci := 5) (v := .ref (a 21)) (C := RX5) (T := TX5) (N := 29) hx hb hts wiX5_out_out_X5 hown hK hw 0 rfl rfl 28 (by decide) wmX5_out_out_3 (fun _ h9 => h9) rfl dX5_out_229 ?_
                          refine lv_iload hx hb dX5_out_232 (lv_at hl 5 rfl) ?_
                          refine r_iald (v := ((mdCuts m.2.2.2.2.1 m.2.2.2.2.2.1 m.2.2.2.2.2.2).2.2) q) hx hb hK hw 21 rfl q rfl (by omega) (by decide) rfl dX5_out_234 ?_
                          refine lv_isub hx hb dX5_out_235 ?_
                          refine lv_imul hx hb dX5_out_236 ?_
                          refine r_top (y := mdCell (mdCuts m.2.2.2.2.1 m.2.2.2.2.2.1 m.2.2.2.2.2.2) i j q) rfl ?_
                          refine lv_istore (lv' := [(6, .int (mdCell (mdCuts m.2.2.2.2.1 m.2.2.2.2.2.1 m.2.2.2.2.2.2) i j q)), (0, .ref (a 0)), (1, .int (nI (mdMany m.2.2.2.2.1 m.2.2.2.2.2.1 m.2.2.2.2.2.2))), (2, .int (mdO3 m.2.2.2.2.1 m.2.2.2.2.2.1 (mdCuts m.2.2.2.2.1 m.2.2.2.2.2.1 m.2.2.2.2.2.2) i j (mdO2 m.2.2.2.2.1 m.2.2.2.2.2.1 (mdCuts m.2.2.2.2.1 m.2.2.2.2.2.1 m.2.2.2.2.2.2) (mdMany m.2.2.2.2.1 m.2.2.2.2.2.1 m.2.2.2.2.2.2) i (mdO1 m.2.2.2.2.1 m.2.2.2.2.2.1 (mdCuts m.2.2.2.2.1 m.2.2.2.2.2.1 m.2.2.2.2.2.2) (mdMany m.2.2.2.2.1 m.2.2.2.2.2.1 m.2.2.2.2.2.2) i) j) q)), (3, .int (nI i)), (4, .int (nI j)), (5, .int (nI q))]) hx hb dX5_out_237 hl (by decide) rfl (fun ls hl => ?_)
                          have join_278 : ∀ (z : Int32) (hz : z = if mdCell (mdCuts m.2.2.2.2.1 m.2.2.2.2.2.1 m.2.2.2.2.2.2) i j q ≤ 0 then 0 else if mdIsK m.2.2.2.2.1 m.2.2.2.2.2.1 ((mdCuts m.2.2.2.2.1 m.2.2.2.2.2.1 m.2.2.2.2.2.2).1 i) ((mdCuts m.2.2.2.2.1 m.2.2.2.2.2.1 m.2.2.2.2.2.2).2.1 j) ((mdCuts m.2.2.2.2.1 m.2.2.2.2.2.1 m.2.2.2.2.2.2).2.2 q) m.2.2.2.2.1.2.2.2.2.1 = 0 then 0 else mdCell (mdCuts m.2.2.2.2.1 m.2.2.2.2.2.1 m.2.2.2.2.2.2) i j q) (H : Heap) (locs : List Loc) (ls : Array Slot), wW G A9 s9.heap (wMd G a (m.1, m.2.1, m.2.2.1, m.2.2.2.1, m.2.2.2.2.1, m.2.2.2.2.2.1, (mdCuts m.2.2.2.2.1 m.2.2.2.2.2.1 m.2.2.2.2.2.2))) H locs → lv_has ls 7 [(0, .ref (a 0)), (1, .int (nI (mdMany m.2.2.2.2.1 m.2.2.2.2.2.1 m.2.2.2.2.2.2))), (2, .int (mdO3 m.2.2.2.2.1 m.2.2.2.2.2.1 (mdCuts m.2.2.2.2.1 m.2.2.2.2.2.1 m.2.2.2.2.2.2) i j (mdO2 m.2.2.2.2.1 m.2.2.2.2.2.1 (mdCuts m.2.2.2.2.1 m.2.2.2.2.2.1 m.2.2.2.2.2.2) (mdMany m.2.2.2.2.1 m.2.2.2.2.2.1 m.2.2.2.2.2.2) i (mdO1 m.2.2.2.2.1 m.2.2.2.2.2.1 (mdCuts m.2.2.2.2.1 m.2.2.2.2.2.1 m.2.2.2.2.2.2) (mdMany m.2.2.2.2.1 m.2.2.2.2.2.1 m.2.2.2.2.2.2) i) j) q)), (3, .int (nI i)), (4, .int (nI j)), (5, .int (nI q)), (6, .int (mdCell (mdCuts m.2.2.2.2.1 m.2.2.2.2.2.1 m.2.2.2.2.2.2) i j q))] → W p9 l e9 ({ frames := 1, cells := 0, slots := 0, locals := 26 }) s9 m9 [.ref (a 0)].toArray be9 mt9 c9 H locs 0 0 (MQ be9 (va_Qi (fun (r9 : Int32) (_ : Unit) => r9 = (mdOut m.2.2.2.2.1 m.2.2.2.2.2.1 m.2.2.2.2.2.2)) (fun _ t9 => wPost G A9 (wMd G a (m.1, m.2.1, m.2.2.1, m.2.2.2.1, m.2.2.2.2.1, m.2.2.2.2.2.1, (mdCuts m.2.2.2.2.1 m.2.2.2.2.2.1 m.2.2.2.2.2.2))) t9) A9) [.ref (a 0)].toArray s9 0 0 A9) (F0 m9 278 ls [.int z, .int (mdO3 m.2.2.2.2.1 m.2.2.2.2.2.1 (mdCuts m.2.2.2.2.1 m.2.2.2.2.2.1 m.2.2.2.2.2.2) i j (mdO2 m.2.2.2.2.1 m.2.2.2.2.2.1 (mdCuts m.2.2.2.2.1 m.2.2.2.2.2.1 m.2.2.2.2.2.2) (mdMany m.2.2.2.2.1 m.2.2.2.2.2.1 m.2.2.2.2.2.2) i (mdO1 m.2.2.2.2.1 m.2.2.2.2.2.1 (mdCuts m.2.2.2.2.1 m.2.2.2.2.2.1 m.2.2.2.2.2.2) (mdMany m.2.2.2.2.1 m.2.2.2.2.2.1 m.2.2.2.2.2.2) i) j) q)]) := by
                            intro z hz H locs ls hw hl
                            refine lv_iadd hx hb dX5_out_278 ?_
                            refine lv_istore_n (lv' := [(2, .int ((mdO3 m.2.2.2.2.1 m.2.2.2.2.2.1 (mdCuts m.2.2.2.2.1 m.2.2.2.2.2.1 m.2.2.2.2.2.2) i j (mdO2 m.2.2.2.2.1 m.2.2.2.2.2.1 (mdCuts m.2.2.2.2.1 m.2.2.2.2.2.1 m.2.2.2.2.2.2) (mdMany m.2.2.2.2.1 m.2.2.2.2.2.1 m.2.2.2.2.2.2) i (mdO1 m.2.2.2.2.1 m.2.2.2.2.2.1 (mdCuts m.2.2.2.2.1 m.2.2.2.2.2.1 m.2.2.2.2.2.2) (mdMany m.2.2.2.2.1 m.2.2.2.2.2.1 m.2.2.2.2.2.2) i) j) q) + z)), (0, .ref (a 0)), (1, .int (nI (mdMany m.2.2.2.2.1 m.2.2.2.2.2.1 m.2.2.2.2.2.2))), (3, .int (nI i)), (4, .int (nI j)), (5, .int (nI q)), (6, .int (mdCell (mdCuts m.2.2.2.2.1 m.2.2.2.2.2.1 m.2.2.2.2.2.2) i j q))]) hx hb dX5_out_279 rfl hl (by decide) rfl (fun ls hl => ?_)
                            refine lv_iinc (v := nI (q + 1)) (lv' := [(5, .int (nI (q + 1))), (2, .int ((mdO3 m.2.2.2.2.1 m.2.2.2.2.2.1 (mdCuts m.2.2.2.2.1 m.2.2.2.2.2.1 m.2.2.2.2.2.2) i j (mdO2 m.2.2.2.2.1 m.2.2.2.2.2.1 (mdCuts m.2.2.2.2.1 m.2.2.2.2.2.1 m.2.2.2.2.2.2) (mdMany m.2.2.2.2.1 m.2.2.2.2.2.1 m.2.2.2.2.2.2) i (mdO1 m.2.2.2.2.1 m.2.2.2.2.2.1 (mdCuts m.2.2.2.2.1 m.2.2.2.2.2.1 m.2.2.2.2.2.2) (mdMany m.2.2.2.2.1 m.2.2.2.2.2.1 m.2.2.2.2.2.2) i) j) q) + z)), (0, .ref (a 0)), (1, .int (nI (mdMany m.2.2.2.2.1 m.2.2.2.2.2.1 m.2.2.2.2.2.2))), (3, .int (nI i)), (4, .int (nI j)), (6, .int (mdCell (mdCuts m.2.2.2.2.1 m.2.2.2.2.2.1 m.2.2.2.2.2.2) i j q))]) hx hb dX5_out_280 hl (k := 5) rfl (nI_add q 1) (by decide) rfl (fun ls hl => ?_)
                            refine lv_goto (tgt := 178) hx hb dX5_out_283 (by decide) ?_
                            exact ih_178 (q + 1) (by omega) (by first | assumption | omega | rfl) _ _ _ hw (lv_sub hl [2, 3, 1, 4, 5, 0] (show lv_pick [(5, .int (nI (q + 1))), (2, .int ((mdO3 m.2.2.2.2.1 m.2.2.2.2.2.1 (mdCuts m.2.2.2.2.1 m.2.2.2.2.2.1 m.2.2.2.2.2.2) i j (mdO2 m.2.2.2.2.1 m.2.2.2.2.2.1 (mdCuts m.2.2.2.2.1 m.2.2.2.2.2.1 m.2.2.2.2.2.2) (mdMany m.2.2.2.2.1 m.2.2.2.2.2.1 m.2.2.2.2.2.2) i (mdO1 m.2.2.2.2.1 m.2.2.2.2.2.1 (mdCuts m.2.2.2.2.1 m.2.2.2.2.2.1 m.2.2.2.2.2.2) (mdMany m.2.2.2.2.1 m.2.2.2.2.2.1 m.2.2.2.2.2.2) i) j) q) + z)), (0, .ref (a 0)), (1, .int (nI (mdMany m.2.2.2.2.1 m.2.2.2.2.2.1 m.2.2.2.2.2.2))), (3, .int (nI i)), (4, .int (nI j)), (6, .int (mdCell (mdCuts m.2.2.2.2.1 m.2.2.2.2.2.1 m.2.2.2.2.2.2) i j q))] [2, 3, 1, 4, 5, 0] = [(0, .ref (a 0)), (1, .int (nI (mdMany m.2.2.2.2.1 m.2.2.2.2.2.1 m.2.2.2.2.2.2))), (2, .int (mdO3 m.2.2.2.2.1 m.2.2.2.2.2.1 (mdCuts m.2.2.2.2.1 m.2.2.2.2.2.1 m.2.2.2.2.2.2) i j (mdO2 m.2.2.2.2.1 m.2.2.2.2.2.1 (mdCuts m.2.2.2.2.1 m.2.2.2.2.2.1 m.2.2.2.2.2.2) (mdMany m.2.2.2.2.1 m.2.2.2.2.2.1 m.2.2.2.2.2.2) i (mdO1 m.2.2.2.2.1 m.2.2.2.2.2.1 (mdCuts m.2.2.2.2.1 m.2.2.2.2.2.1 m.2.2.2.2.2.2) (mdMany m.2.2.2.2.1 m.2.2.2.2.2.1 m.2.2.2.2.2.2) i) j) (q + 1))), (3, .int (nI i)), (4, .int (nI j)), (5, .int (nI (q + 1)))] by rw [hz]; rfl))
                          refine lv_iload_n hx hb dX5_out_239 rfl (lv_at hl 3 rfl) ?_
                          refine lv_iload hx hb dX5_out_240 (lv_at hl 0 rfl) ?_
                          refine lv_if_le (tgt := 277) hx hb dX5_out_242 (by decide) (fun c_242 => ?_) (fun c_242 => ?_)
                          · refine lv_iconst (v := 0) hx hb dX5_out_277 (by decide) ?_
                            exact join_278 0 (by simp only [if_pos c_242]) _ _ _ hw (lv_sub hl [1, 2, 3, 4, 5, 6, 0] rfl)
                          · refine lv_aload_n hx hb dX5_out_245 rfl (lv_at hl 1 rfl) ?_
                            refine lv_aload_n hx hb dX5_out_246 rfl (lv_at hl 1 rfl) ?_
                            refine r_get (ci := 5) (v := .ref (a 19)) (C := RX5) (T := TX5) (N := 29) hx hb hts wiX5_out_out_X5 hown hK hw 0 rfl rfl 26 (by decide) wmX5_out_out_1 (fun _ h9 => h9) rfl dX5_out_247 ?_
                            refine lv_iload_n hx hb dX5_out_250 rfl (lv_at hl 4 rfl) ?_
                            refine r_iald (v := ((mdCuts m.2.2.2.2.1 m.2.2.2.2.2.1 m.2.2.2.2.2.2).1) i) hx hb hK hw 19 rfl i rfl (by omega) (by decide) rfl dX5_out_251 ?_
                            refine lv_aload_n hx hb dX5_out_252 rfl (lv_at hl 1 rfl) ?_
                            refine r_get (ci := 5) (v := .ref (a 20)) (C := RX5) (T := TX5) (N := 29) hx hb hts wiX5_out_out_X5 hown hK hw 0 rfl rfl 27 (by decide) wmX5_out_out_2 (fun _ h9 => h9) rfl dX5_out_253 ?_
                            refine lv_iload hx hb dX5_out_256 (lv_at hl 5 rfl) ?_
                            refine r_iald (v := ((mdCuts m.2.2.2.2.1 m.2.2.2.2.2.1 m.2.2.2.2.2.2).2.1) j) hx hb hK hw 20 rfl j rfl (by omega) (by decide) rfl dX5_out_258 ?_
                            refine lv_aload_n hx hb dX5_out_259 rfl (lv_at hl 1 rfl) ?_
                            refine r_get (ci := 5) (v := .ref (a 21)) (C := RX5) (T := TX5) (N := 29) hx hb hts wiX5_out_out_X5 hown hK hw 0 rfl rfl 28 (by decide) wmX5_out_out_3 (fun _ h9 => h9) rfl dX5_out_260 ?_
                            refine lv_iload hx hb dX5_out_263 (lv_at hl 6 rfl) ?_
                            refine r_iald (v := ((mdCuts m.2.2.2.2.1 m.2.2.2.2.2.1 m.2.2.2.2.2.2).2.2) q) hx hb hK hw 21 rfl q rfl (by omega) (by decide) rfl dX5_out_265 ?_
                            have hwc : wW G A9 s9.heap (([] : va_W) ++ ((wMd G a (m.1, m.2.1, m.2.2.1, m.2.2.2.1, m.2.2.2.2.1, m.2.2.2.2.2.1, (mdCuts m.2.2.2.2.1 m.2.2.2.2.2.1 m.2.2.2.2.2.2))) ++ ([] : va_W))) H locs := hw
                            refine r_calli (res := (mdIsK m.2.2.2.2.1 m.2.2.2.2.2.1 (((mdCuts m.2.2.2.2.1 m.2.2.2.2.2.1 m.2.2.2.2.2.2).1) i) (((mdCuts m.2.2.2.2.1 m.2.2.2.2.2.1 m.2.2.2.2.2.2).2.1) j) (((mdCuts m.2.2.2.2.1 m.2.2.2.2.2.1 m.2.2.2.2.2.2).2.2) q) m.2.2.2.2.1.2.2.2.2.1)) (u := ([] : va_W)) (w := wMd G a (m.1, m.2.1, m.2.2.1, m.2.2.2.1, m.2.2.2.2.1, m.2.2.2.2.2.1, (mdCuts m.2.2.2.2.1 m.2.2.2.2.2.1 m.2.2.2.2.2.2))) (v := ([] : va_W)) (va_runV (As := [.int (((mdCuts m.2.2.2.2.1 m.2.2.2.2.2.1 m.2.2.2.2.2.2).1) i), .int (((mdCuts m.2.2.2.2.1 m.2.2.2.2.2.1 m.2.2.2.2.2.2).2.1) j), .int (((mdCuts m.2.2.2.2.1 m.2.2.2.2.2.1 m.2.2.2.2.2.2).2.2) q)]) (rest := [.int (mdO3 m.2.2.2.2.1 m.2.2.2.2.2.1 (mdCuts m.2.2.2.2.1 m.2.2.2.2.2.1 m.2.2.2.2.2.2) i j (mdO2 m.2.2.2.2.1 m.2.2.2.2.2.1 (mdCuts m.2.2.2.2.1 m.2.2.2.2.2.1 m.2.2.2.2.2.2) (mdMany m.2.2.2.2.1 m.2.2.2.2.2.1 m.2.2.2.2.2.2) i (mdO1 m.2.2.2.2.1 m.2.2.2.2.2.1 (mdCuts m.2.2.2.2.1 m.2.2.2.2.2.1 m.2.2.2.2.2.2) (mdMany m.2.2.2.2.1 m.2.2.2.2.2.1 m.2.2.2.2.2.2) i) j) q)]) ⟨hx, hb, hml, hown, hts⟩ (c_isout l G a (m.1, m.2.1, m.2.2.1, m.2.2.2.1, m.2.2.2.2.1, m.2.2.2.2.2.1, (mdCuts m.2.2.2.2.1 m.2.2.2.2.2.1 m.2.2.2.2.2.2)) (((mdCuts m.2.2.2.2.1 m.2.2.2.2.2.1 m.2.2.2.2.2.2).1) i) (((mdCuts m.2.2.2.2.1 m.2.2.2.2.2.1 m.2.2.2.2.2.2).2.1) j) (((mdCuts m.2.2.2.2.1 m.2.2.2.2.2.1 m.2.2.2.2.2.2).2.2) q) (by first | assumption | omega | decide) H.size) (cwV 3 hts gX5_out_X5_isOut rfl rfl rfl (by decide +kernel) ⟨Nat.le_of_ble_eq_true rfl, Nat.le_of_ble_eq_true rfl⟩) (r_preV (ci := 5) (q0 := 0) hK hwc rfl rfl rfl) rfl rfl hl.1 rfl (lv_room (Nat.le_of_ble_eq_true rfl)) dX5_out_266 ⟨Nat.le_of_ble_eq_true rfl, Nat.le_of_ble_eq_true rfl⟩) hwc hA rfl rfl (fun H locs hw => ?_)
                            have hw : wW G A9 s9.heap (wMd G a (m.1, m.2.1, m.2.2.1, m.2.2.2.1, m.2.2.2.2.1, m.2.2.2.2.2.1, (mdCuts m.2.2.2.2.1 m.2.2.2.2.2.1 m.2.2.2.2.2.2))) H locs := hw
                            refine lv_if_eq (tgt := 277) hx hb dX5_out_269 (by decide) (fun c_269 => ?_) (fun c_269 => ?_)
                            · refine lv_iconst (v := 0) hx hb dX5_out_277 (by decide) ?_
                              exact join_278 0 (by simp only [if_neg c_242, if_pos c_269]) _ _ _ hw (lv_sub hl [1, 2, 3, 4, 5, 6, 0] rfl)
                            · refine lv_iload hx hb dX5_out_272 (lv_at hl 0 rfl) ?_
                              refine lv_goto (tgt := 278) hx hb dX5_out_274 (by decide) ?_
                              exact join_278 (mdCell (mdCuts m.2.2.2.2.1 m.2.2.2.2.2.1 m.2.2.2.2.2.2) i j q) (by simp only [if_neg c_242, if_neg c_269]) _ _ _ hw (lv_sub hl [1, 2, 3, 4, 5, 6, 0] rfl)
                    exact loop_178 ((mdMany m.2.2.2.2.1 m.2.2.2.2.2.1 m.2.2.2.2.2.2 - 0) + 1) 0 (Nat.lt_succ_self _) (by first | assumption | omega | rfl) _ _ _ hw (lv_sub hl [1, 2, 3, 4, 5, 0] rfl)
              exact loop_167 ((mdMany m.2.2.2.2.1 m.2.2.2.2.2.1 m.2.2.2.2.2.2 - 0) + 1) 0 (Nat.lt_succ_self _) (by first | assumption | omega | rfl) _ _ _ hw (lv_sub hl [1, 2, 3, 4, 0] rfl)
        exact loop_157 ((mdMany m.2.2.2.2.1 m.2.2.2.2.2.1 m.2.2.2.2.2.2 - 0) + 1) 0 (Nat.lt_succ_self _) (by first | assumption | omega | rfl) _ _ _ (wW.eq (show wMd G a (m.1, m.2.1, m.2.2.1, m.2.2.2.1, m.2.2.2.2.1, m.2.2.2.2.2.1, ((srtK ((mdFillK m.2.2.2.2.1 m.2.2.2.2.2.1 m.2.2.2.2.2.2 m.2.2.2.2.1.2.2.2.2.1).2).1 ((mdMany m.2.2.2.2.1 m.2.2.2.2.2.1 m.2.2.2.2.2.2) - 1)), (srtK ((mdFillK m.2.2.2.2.1 m.2.2.2.2.2.1 m.2.2.2.2.2.2 m.2.2.2.2.1.2.2.2.2.1).2.2.1) ((mdMany m.2.2.2.2.1 m.2.2.2.2.2.1 m.2.2.2.2.2.2) - 1)), (srtK ((mdFillK m.2.2.2.2.1 m.2.2.2.2.2.1 m.2.2.2.2.2.2 m.2.2.2.2.1.2.2.2.2.1).2.2.2) ((mdMany m.2.2.2.2.1 m.2.2.2.2.2.1 m.2.2.2.2.2.2) - 1)))) = wMd G a (m.1, m.2.1, m.2.2.1, m.2.2.2.1, m.2.2.2.2.1, m.2.2.2.2.2.1, (mdCuts m.2.2.2.2.1 m.2.2.2.2.2.1 m.2.2.2.2.2.2)) from rfl) hw) (lv_sub hl [2, 3, 1, 0] rfl)
      · have hc_9 : k < m.2.2.2.2.1.2.2.2.2.1 := ct_nge (k := k) (n := m.2.2.2.2.1.2.2.2.2.1) (by omega) (by omega) c_9
        have hle := mdFillK_le m.2.2.2.2.1 m.2.2.2.2.2.1 m.2.2.2.2.2.2 k
        refine lv_aload_n hx hb dX5_out_12 rfl (lv_at hl 0 rfl) ?_
        refine r_get (ci := 5) (v := .ref (a 18)) (C := RX5) (T := TX5) (N := 29) hx hb hts wiX5_out_out_X5 hown hK hw 0 rfl rfl 25 (by decide) wmX5_out_out_4 (fun _ h9 => h9) rfl dX5_out_13 ?_
        refine lv_iload_n hx hb dX5_out_16 rfl (lv_at hl 2 rfl) ?_
        refine r_zald (v := m.2.2.2.2.2.1.2.2 k) hx hb hK hw 18 rfl k rfl (by omega) (by decide) rfl dX5_out_17 ?_
        refine lv_if_ne (tgt := 123) hx hb dX5_out_18 (by decide) (fun c_18 => ?_) (fun c_18 => ?_)
        · refine lv_iinc (v := nI (k + 1)) (lv' := [(2, .int (nI (k + 1))), (0, .ref (a 0)), (1, .int (nI (mdFillK m.2.2.2.2.1 m.2.2.2.2.2.1 m.2.2.2.2.2.2 k).1))]) hx hb dX5_out_123 hl (k := 2) rfl (nI_add k 1) (by decide) rfl (fun ls hl => ?_)
          refine lv_goto (tgt := 4) hx hb dX5_out_126 (by decide) ?_
          exact ih_4 (k + 1) (by omega) (by first | assumption | omega | rfl) _ _ _ (wW.eq (show wMd G a (m.1, m.2.1, m.2.2.1, m.2.2.2.1, m.2.2.2.2.1, m.2.2.2.2.2.1, (mdFillK m.2.2.2.2.1 m.2.2.2.2.2.1 m.2.2.2.2.2.2 k).2) = wMd G a (m.1, m.2.1, m.2.2.1, m.2.2.2.1, m.2.2.2.2.1, m.2.2.2.2.2.1, (mdFillK m.2.2.2.2.1 m.2.2.2.2.2.1 m.2.2.2.2.2.2 (k + 1)).2) from (by simp only [mdFillK, if_neg c_18])) hw) (lv_sub hl [1, 2, 0] (show lv_pick [(2, .int (nI (k + 1))), (0, .ref (a 0)), (1, .int (nI (mdFillK m.2.2.2.2.1 m.2.2.2.2.2.1 m.2.2.2.2.2.2 k).1))] [1, 2, 0] = [(0, .ref (a 0)), (1, .int (nI (mdFillK m.2.2.2.2.1 m.2.2.2.2.2.1 m.2.2.2.2.2.2 (k + 1)).1)), (2, .int (nI (k + 1)))] by simp only [mdFillK, if_neg c_18]; rfl))
        · refine lv_aload_n hx hb dX5_out_21 rfl (lv_at hl 0 rfl) ?_
          refine r_get (ci := 5) (v := .ref (a 19)) (C := RX5) (T := TX5) (N := 29) hx hb hts wiX5_out_out_X5 hown hK hw 0 rfl rfl 26 (by decide) wmX5_out_out_1 (fun _ h9 => h9) rfl dX5_out_22 ?_
          refine lv_iload_n hx hb dX5_out_25 rfl (lv_at hl 1 rfl) ?_
          refine lv_aload_n hx hb dX5_out_26 rfl (lv_at hl 0 rfl) ?_
          refine r_get (ci := 5) (v := .ref (a 16)) (C := RX5) (T := TX5) (N := 29) hx hb hts wiX5_out_out_X5 hown hK hw 0 rfl rfl 23 (by decide) wmX5_out_out_5 (fun _ h9 => h9) rfl dX5_out_27 ?_
          refine lv_iconst (v := 4) hx hb dX5_out_30 (by decide) ?_
          refine lv_iload_n hx hb dX5_out_31 rfl (lv_at hl 2 rfl) ?_
          refine lv_imul hx hb dX5_out_32 ?_
          refine r_top (y := nI (4 * k)) (pk_mul 4 k) ?_
          refine r_iald (v := m.2.2.2.2.2.1.1 (4 * k)) hx hb hK hw 16 rfl (4 * k) rfl (by omega) (by decide) rfl dX5_out_33 ?_
          refine r_iast hx hb hK hw 19 rfl ((mdFillK m.2.2.2.2.1 m.2.2.2.2.2.1 m.2.2.2.2.2.2 k).1) rfl (by omega) (by decide) dX5_out_34 (ws' := wMd G a (m.1, m.2.1, m.2.2.1, m.2.2.2.1, m.2.2.2.2.1, m.2.2.2.2.2.1, ((upd ((mdFillK m.2.2.2.2.1 m.2.2.2.2.2.1 m.2.2.2.2.2.2 k).2.1) ((mdFillK m.2.2.2.2.1 m.2.2.2.2.2.1 m.2.2.2.2.2.2 k).1) (m.2.2.2.2.2.1.1 (4 * k))), (mdFillK m.2.2.2.2.1 m.2.2.2.2.2.1 m.2.2.2.2.2.2 k).2.2.1, (mdFillK m.2.2.2.2.1 m.2.2.2.2.2.1 m.2.2.2.2.2.2 k).2.2.2))) rfl (fun H locs hw => ?_)
          refine lv_aload_n hx hb dX5_out_35 rfl (lv_at hl 0 rfl) ?_
          refine r_get (ci := 5) (v := .ref (a 19)) (C := RX5) (T := TX5) (N := 29) hx hb hts wiX5_out_out_X5 hown hK hw 0 rfl rfl 26 (by decide) wmX5_out_out_1 (fun _ h9 => h9) rfl dX5_out_36 ?_
          refine lv_iload_n hx hb dX5_out_39 rfl (lv_at hl 1 rfl) ?_
          refine lv_iconst (v := 1) hx hb dX5_out_40 (by decide) ?_
          refine lv_iadd hx hb dX5_out_41 ?_
          refine r_top (y := nI (((mdFillK m.2.2.2.2.1 m.2.2.2.2.2.1 m.2.2.2.2.2.2 k).1) + 1)) (nI_add ((mdFillK m.2.2.2.2.1 m.2.2.2.2.2.1 m.2.2.2.2.2.2 k).1) 1) ?_
          refine lv_aload_n hx hb dX5_out_42 rfl (lv_at hl 0 rfl) ?_
          refine r_get (ci := 5) (v := .ref (a 16)) (C := RX5) (T := TX5) (N := 29) hx hb hts wiX5_out_out_X5 hown hK hw 0 rfl rfl 23 (by decide) wmX5_out_out_5 (fun _ h9 => h9) rfl dX5_out_43 ?_
          refine lv_iconst (v := 4) hx hb dX5_out_46 (by decide) ?_
          refine lv_iload_n hx hb dX5_out_47 rfl (lv_at hl 2 rfl) ?_
          refine lv_imul hx hb dX5_out_48 ?_
          refine r_top (y := nI (4 * k)) (pk_mul 4 k) ?_
          refine lv_iconst (v := 1) hx hb dX5_out_49 (by decide) ?_
          refine lv_iadd hx hb dX5_out_50 ?_
          refine r_top (y := nI ((4 * k) + 1)) (nI_add (4 * k) 1) ?_
          refine r_iald (v := m.2.2.2.2.2.1.1 ((4 * k) + 1)) hx hb hK hw 16 rfl ((4 * k) + 1) rfl (by omega) (by decide) rfl dX5_out_51 ?_
          refine r_iast hx hb hK hw 19 rfl (((mdFillK m.2.2.2.2.1 m.2.2.2.2.2.1 m.2.2.2.2.2.2 k).1) + 1) rfl (by omega) (by decide) dX5_out_52 (ws' := wMd G a (m.1, m.2.1, m.2.2.1, m.2.2.2.1, m.2.2.2.2.1, m.2.2.2.2.2.1, ((upd (upd ((mdFillK m.2.2.2.2.1 m.2.2.2.2.2.1 m.2.2.2.2.2.2 k).2.1) ((mdFillK m.2.2.2.2.1 m.2.2.2.2.2.1 m.2.2.2.2.2.2 k).1) (m.2.2.2.2.2.1.1 (4 * k))) (((mdFillK m.2.2.2.2.1 m.2.2.2.2.2.1 m.2.2.2.2.2.2 k).1) + 1) (m.2.2.2.2.2.1.1 ((4 * k) + 1))), (mdFillK m.2.2.2.2.1 m.2.2.2.2.2.1 m.2.2.2.2.2.2 k).2.2.1, (mdFillK m.2.2.2.2.1 m.2.2.2.2.2.1 m.2.2.2.2.2.2 k).2.2.2))) rfl (fun H locs hw => ?_)
          refine lv_aload_n hx hb dX5_out_53 rfl (lv_at hl 0 rfl) ?_
          refine r_get (ci := 5) (v := .ref (a 20)) (C := RX5) (T := TX5) (N := 29) hx hb hts wiX5_out_out_X5 hown hK hw 0 rfl rfl 27 (by decide) wmX5_out_out_2 (fun _ h9 => h9) rfl dX5_out_54 ?_
          refine lv_iload_n hx hb dX5_out_57 rfl (lv_at hl 1 rfl) ?_
          refine lv_aload_n hx hb dX5_out_58 rfl (lv_at hl 0 rfl) ?_
          refine r_get (ci := 5) (v := .ref (a 16)) (C := RX5) (T := TX5) (N := 29) hx hb hts wiX5_out_out_X5 hown hK hw 0 rfl rfl 23 (by decide) wmX5_out_out_5 (fun _ h9 => h9) rfl dX5_out_59 ?_
          refine lv_iconst (v := 4) hx hb dX5_out_62 (by decide) ?_
          refine lv_iload_n hx hb dX5_out_63 rfl (lv_at hl 2 rfl) ?_
          refine lv_imul hx hb dX5_out_64 ?_
          refine r_top (y := nI (4 * k)) (pk_mul 4 k) ?_
          refine lv_iconst (v := 2) hx hb dX5_out_65 (by decide) ?_
          refine lv_iadd hx hb dX5_out_66 ?_
          refine r_top (y := nI ((4 * k) + 2)) (nI_add (4 * k) 2) ?_
          refine r_iald (v := m.2.2.2.2.2.1.1 ((4 * k) + 2)) hx hb hK hw 16 rfl ((4 * k) + 2) rfl (by omega) (by decide) rfl dX5_out_67 ?_
          refine r_iast hx hb hK hw 20 rfl ((mdFillK m.2.2.2.2.1 m.2.2.2.2.2.1 m.2.2.2.2.2.2 k).1) rfl (by omega) (by decide) dX5_out_68 (ws' := wMd G a (m.1, m.2.1, m.2.2.1, m.2.2.2.1, m.2.2.2.2.1, m.2.2.2.2.2.1, ((upd (upd ((mdFillK m.2.2.2.2.1 m.2.2.2.2.2.1 m.2.2.2.2.2.2 k).2.1) ((mdFillK m.2.2.2.2.1 m.2.2.2.2.2.1 m.2.2.2.2.2.2 k).1) (m.2.2.2.2.2.1.1 (4 * k))) (((mdFillK m.2.2.2.2.1 m.2.2.2.2.2.1 m.2.2.2.2.2.2 k).1) + 1) (m.2.2.2.2.2.1.1 ((4 * k) + 1))), (upd ((mdFillK m.2.2.2.2.1 m.2.2.2.2.2.1 m.2.2.2.2.2.2 k).2.2.1) ((mdFillK m.2.2.2.2.1 m.2.2.2.2.2.1 m.2.2.2.2.2.2 k).1) (m.2.2.2.2.2.1.1 ((4 * k) + 2))), (mdFillK m.2.2.2.2.1 m.2.2.2.2.2.1 m.2.2.2.2.2.2 k).2.2.2))) rfl (fun H locs hw => ?_)
          refine lv_aload_n hx hb dX5_out_69 rfl (lv_at hl 0 rfl) ?_
          refine r_get (ci := 5) (v := .ref (a 20)) (C := RX5) (T := TX5) (N := 29) hx hb hts wiX5_out_out_X5 hown hK hw 0 rfl rfl 27 (by decide) wmX5_out_out_2 (fun _ h9 => h9) rfl dX5_out_70 ?_
          refine lv_iload_n hx hb dX5_out_73 rfl (lv_at hl 1 rfl) ?_
          refine lv_iconst (v := 1) hx hb dX5_out_74 (by decide) ?_
          refine lv_iadd hx hb dX5_out_75 ?_
          refine r_top (y := nI (((mdFillK m.2.2.2.2.1 m.2.2.2.2.2.1 m.2.2.2.2.2.2 k).1) + 1)) (nI_add ((mdFillK m.2.2.2.2.1 m.2.2.2.2.2.1 m.2.2.2.2.2.2 k).1) 1) ?_
          refine lv_aload_n hx hb dX5_out_76 rfl (lv_at hl 0 rfl) ?_
          refine r_get (ci := 5) (v := .ref (a 16)) (C := RX5) (T := TX5) (N := 29) hx hb hts wiX5_out_out_X5 hown hK hw 0 rfl rfl 23 (by decide) wmX5_out_out_5 (fun _ h9 => h9) rfl dX5_out_77 ?_
          refine lv_iconst (v := 4) hx hb dX5_out_80 (by decide) ?_
          refine lv_iload_n hx hb dX5_out_81 rfl (lv_at hl 2 rfl) ?_
          refine lv_imul hx hb dX5_out_82 ?_
          refine r_top (y := nI (4 * k)) (pk_mul 4 k) ?_
          refine lv_iconst (v := 3) hx hb dX5_out_83 (by decide) ?_
          refine lv_iadd hx hb dX5_out_84 ?_
          refine r_top (y := nI ((4 * k) + 3)) (nI_add (4 * k) 3) ?_
          refine r_iald (v := m.2.2.2.2.2.1.1 ((4 * k) + 3)) hx hb hK hw 16 rfl ((4 * k) + 3) rfl (by omega) (by decide) rfl dX5_out_85 ?_
          refine r_iast hx hb hK hw 20 rfl (((mdFillK m.2.2.2.2.1 m.2.2.2.2.2.1 m.2.2.2.2.2.2 k).1) + 1) rfl (by omega) (by decide) dX5_out_86 (ws' := wMd G a (m.1, m.2.1, m.2.2.1, m.2.2.2.1, m.2.2.2.2.1, m.2.2.2.2.2.1, ((upd (upd ((mdFillK m.2.2.2.2.1 m.2.2.2.2.2.1 m.2.2.2.2.2.2 k).2.1) ((mdFillK m.2.2.2.2.1 m.2.2.2.2.2.1 m.2.2.2.2.2.2 k).1) (m.2.2.2.2.2.1.1 (4 * k))) (((mdFillK m.2.2.2.2.1 m.2.2.2.2.2.1 m.2.2.2.2.2.2 k).1) + 1) (m.2.2.2.2.2.1.1 ((4 * k) + 1))), (upd (upd ((mdFillK m.2.2.2.2.1 m.2.2.2.2.2.1 m.2.2.2.2.2.2 k).2.2.1) ((mdFillK m.2.2.2.2.1 m.2.2.2.2.2.1 m.2.2.2.2.2.2 k).1) (m.2.2.2.2.2.1.1 ((4 * k) + 2))) (((mdFillK m.2.2.2.2.1 m.2.2.2.2.2.1 m.2.2.2.2.2.2 k).1) + 1) (m.2.2.2.2.2.1.1 ((4 * k) + 3))), (mdFillK m.2.2.2.2.1 m.2.2.2.2.2.1 m.2.2.2.2.2.2 k).2.2.2))) rfl (fun H locs hw => ?_)
          refine lv_aload_n hx hb dX5_out_87 rfl (lv_at hl 0 rfl) ?_
          refine r_get (ci := 5) (v := .ref (a 21)) (C := RX5) (T := TX5) (N := 29) hx hb hts wiX5_out_out_X5 hown hK hw 0 rfl rfl 28 (by decide) wmX5_out_out_3 (fun _ h9 => h9) rfl dX5_out_88 ?_
          refine lv_iload_n hx hb dX5_out_91 rfl (lv_at hl 1 rfl) ?_
          refine lv_aload_n hx hb dX5_out_92 rfl (lv_at hl 0 rfl) ?_
          refine r_get (ci := 5) (v := .ref (a 17)) (C := RX5) (T := TX5) (N := 29) hx hb hts wiX5_out_out_X5 hown hK hw 0 rfl rfl 24 (by decide) wmX5_out_out_6 (fun _ h9 => h9) rfl dX5_out_93 ?_
          refine lv_iload_n hx hb dX5_out_96 rfl (lv_at hl 2 rfl) ?_
          refine r_iald (v := m.2.2.2.2.2.1.2.1 k) hx hb hK hw 17 rfl k rfl (by omega) (by decide) rfl dX5_out_97 ?_
          refine r_iast hx hb hK hw 21 rfl ((mdFillK m.2.2.2.2.1 m.2.2.2.2.2.1 m.2.2.2.2.2.2 k).1) rfl (by omega) (by decide) dX5_out_98 (ws' := wMd G a (m.1, m.2.1, m.2.2.1, m.2.2.2.1, m.2.2.2.2.1, m.2.2.2.2.2.1, ((upd (upd ((mdFillK m.2.2.2.2.1 m.2.2.2.2.2.1 m.2.2.2.2.2.2 k).2.1) ((mdFillK m.2.2.2.2.1 m.2.2.2.2.2.1 m.2.2.2.2.2.2 k).1) (m.2.2.2.2.2.1.1 (4 * k))) (((mdFillK m.2.2.2.2.1 m.2.2.2.2.2.1 m.2.2.2.2.2.2 k).1) + 1) (m.2.2.2.2.2.1.1 ((4 * k) + 1))), (upd (upd ((mdFillK m.2.2.2.2.1 m.2.2.2.2.2.1 m.2.2.2.2.2.2 k).2.2.1) ((mdFillK m.2.2.2.2.1 m.2.2.2.2.2.1 m.2.2.2.2.2.2 k).1) (m.2.2.2.2.2.1.1 ((4 * k) + 2))) (((mdFillK m.2.2.2.2.1 m.2.2.2.2.2.1 m.2.2.2.2.2.2 k).1) + 1) (m.2.2.2.2.2.1.1 ((4 * k) + 3))), (upd ((mdFillK m.2.2.2.2.1 m.2.2.2.2.2.1 m.2.2.2.2.2.2 k).2.2.2) ((mdFillK m.2.2.2.2.1 m.2.2.2.2.2.1 m.2.2.2.2.2.2 k).1) (m.2.2.2.2.2.1.2.1 k))))) rfl (fun H locs hw => ?_)
          refine lv_aload_n hx hb dX5_out_99 rfl (lv_at hl 0 rfl) ?_
          refine r_get (ci := 5) (v := .ref (a 21)) (C := RX5) (T := TX5) (N := 29) hx hb hts wiX5_out_out_X5 hown hK hw 0 rfl rfl 28 (by decide) wmX5_out_out_3 (fun _ h9 => h9) rfl dX5_out_100 ?_
          refine lv_iload_n hx hb dX5_out_103 rfl (lv_at hl 1 rfl) ?_
          refine lv_iconst (v := 1) hx hb dX5_out_104 (by decide) ?_
          refine lv_iadd hx hb dX5_out_105 ?_
          refine r_top (y := nI (((mdFillK m.2.2.2.2.1 m.2.2.2.2.2.1 m.2.2.2.2.2.2 k).1) + 1)) (nI_add ((mdFillK m.2.2.2.2.1 m.2.2.2.2.2.1 m.2.2.2.2.2.2 k).1) 1) ?_
          refine lv_aload_n hx hb dX5_out_106 rfl (lv_at hl 0 rfl) ?_
          refine r_get (ci := 5) (v := .ref (a 17)) (C := RX5) (T := TX5) (N := 29) hx hb hts wiX5_out_out_X5 hown hK hw 0 rfl rfl 24 (by decide) wmX5_out_out_6 (fun _ h9 => h9) rfl dX5_out_107 ?_
          refine lv_iload_n hx hb dX5_out_110 rfl (lv_at hl 2 rfl) ?_
          refine r_iald (v := m.2.2.2.2.2.1.2.1 k) hx hb hK hw 17 rfl k rfl (by omega) (by decide) rfl dX5_out_111 ?_
          refine lv_aload_n hx hb dX5_out_112 rfl (lv_at hl 0 rfl) ?_
          refine r_get (ci := 5) (v := .ref (a 14)) (C := RX5) (T := TX5) (N := 29) hx hb hts wiX5_out_out_X5 hown hK hw 0 rfl rfl 21 (by decide) wmX5_out_out_7 (fun _ h9 => h9) rfl dX5_out_113 ?_
          refine lv_iload_n hx hb dX5_out_116 rfl (lv_at hl 2 rfl) ?_
          refine r_iald (v := m.2.2.2.2.1.2.2.2.2.2.2.2.1 k) hx hb hK hw 14 rfl k rfl (by omega) (by decide) rfl dX5_out_117 ?_
          refine lv_iadd hx hb dX5_out_118 ?_
          refine r_iast hx hb hK hw 21 rfl (((mdFillK m.2.2.2.2.1 m.2.2.2.2.2.1 m.2.2.2.2.2.2 k).1) + 1) rfl (by omega) (by decide) dX5_out_119 (ws' := wMd G a (m.1, m.2.1, m.2.2.1, m.2.2.2.1, m.2.2.2.2.1, m.2.2.2.2.2.1, ((upd (upd ((mdFillK m.2.2.2.2.1 m.2.2.2.2.2.1 m.2.2.2.2.2.2 k).2.1) ((mdFillK m.2.2.2.2.1 m.2.2.2.2.2.1 m.2.2.2.2.2.2 k).1) (m.2.2.2.2.2.1.1 (4 * k))) (((mdFillK m.2.2.2.2.1 m.2.2.2.2.2.1 m.2.2.2.2.2.2 k).1) + 1) (m.2.2.2.2.2.1.1 ((4 * k) + 1))), (upd (upd ((mdFillK m.2.2.2.2.1 m.2.2.2.2.2.1 m.2.2.2.2.2.2 k).2.2.1) ((mdFillK m.2.2.2.2.1 m.2.2.2.2.2.1 m.2.2.2.2.2.2 k).1) (m.2.2.2.2.2.1.1 ((4 * k) + 2))) (((mdFillK m.2.2.2.2.1 m.2.2.2.2.2.1 m.2.2.2.2.2.2 k).1) + 1) (m.2.2.2.2.2.1.1 ((4 * k) + 3))), (upd (upd ((mdFillK m.2.2.2.2.1 m.2.2.2.2.2.1 m.2.2.2.2.2.2 k).2.2.2) ((mdFillK m.2.2.2.2.1 m.2.2.2.2.2.1 m.2.2.2.2.2.2 k).1) (m.2.2.2.2.2.1.2.1 k)) (((mdFillK m.2.2.2.2.1 m.2.2.2.2.2.1 m.2.2.2.2.2.2 k).1) + 1) ((m.2.2.2.2.2.1.2.1 k) + (m.2.2.2.2.1.2.2.2.2.2.2.2.1 k)))))) rfl (fun H locs hw => ?_)
          refine lv_iinc (v := nI (((mdFillK m.2.2.2.2.1 m.2.2.2.2.2.1 m.2.2.2.2.2.2 k).1) + 2)) (lv' := [(1, .int (nI (((mdFillK m.2.2.2.2.1 m.2.2.2.2.2.1 m.2.2.2.2.2.2 k).1) + 2))), (0, .ref (a 0)), (2, .int (nI k))]) hx hb dX5_out_120 hl (k := 1) rfl (nI_add ((mdFillK m.2.2.2.2.1 m.2.2.2.2.2.1 m.2.2.2.2.2.2 k).1) 2) (by decide) rfl (fun ls hl => ?_)
          refine lv_iinc (v := nI (k + 1)) (lv' := [(2, .int (nI (k + 1))), (1, .int (nI (((mdFillK m.2.2.2.2.1 m.2.2.2.2.2.1 m.2.2.2.2.2.2 k).1) + 2))), (0, .ref (a 0))]) hx hb dX5_out_123 hl (k := 2) rfl (nI_add k 1) (by decide) rfl (fun ls hl => ?_)
          refine lv_goto (tgt := 4) hx hb dX5_out_126 (by decide) ?_
          exact ih_4 (k + 1) (by omega) (by first | assumption | omega | rfl) _ _ _ (wW.eq (show wMd G a (m.1, m.2.1, m.2.2.1, m.2.2.2.1, m.2.2.2.2.1, m.2.2.2.2.2.1, ((upd (upd ((mdFillK m.2.2.2.2.1 m.2.2.2.2.2.1 m.2.2.2.2.2.2 k).2.1) ((mdFillK m.2.2.2.2.1 m.2.2.2.2.2.1 m.2.2.2.2.2.2 k).1) (m.2.2.2.2.2.1.1 (4 * k))) (((mdFillK m.2.2.2.2.1 m.2.2.2.2.2.1 m.2.2.2.2.2.2 k).1) + 1) (m.2.2.2.2.2.1.1 ((4 * k) + 1))), (upd (upd ((mdFillK m.2.2.2.2.1 m.2.2.2.2.2.1 m.2.2.2.2.2.2 k).2.2.1) ((mdFillK m.2.2.2.2.1 m.2.2.2.2.2.1 m.2.2.2.2.2.2 k).1) (m.2.2.2.2.2.1.1 ((4 * k) + 2))) (((mdFillK m.2.2.2.2.1 m.2.2.2.2.2.1 m.2.2.2.2.2.2 k).1) + 1) (m.2.2.2.2.2.1.1 ((4 * k) + 3))), (upd (upd ((mdFillK m.2.2.2.2.1 m.2.2.2.2.2.1 m.2.2.2.2.2.2 k).2.2.2) ((mdFillK m.2.2.2.2.1 m.2.2.2.2.2.1 m.2.2.2.2.2.2 k).1) (m.2.2.2.2.2.1.2.1 k)) (((mdFillK m.2.2.2.2.1 m.2.2.2.2.2.1 m.2.2.2.2.2.2 k).1) + 1) ((m.2.2.2.2.2.1.2.1 k) + (m.2.2.2.2.1.2.2.2.2.2.2.2.1 k))))) = wMd G a (m.1, m.2.1, m.2.2.1, m.2.2.2.1, m.2.2.2.2.1, m.2.2.2.2.2.1, (mdFillK m.2.2.2.2.1 m.2.2.2.2.2.1 m.2.2.2.2.2.2 (k + 1)).2) from (by simp only [mdFillK, if_pos c_18])) hw) (lv_sub hl [2, 1, 0] (show lv_pick [(2, .int (nI (k + 1))), (1, .int (nI (((mdFillK m.2.2.2.2.1 m.2.2.2.2.2.1 m.2.2.2.2.2.2 k).1) + 2))), (0, .ref (a 0))] [2, 1, 0] = [(0, .ref (a 0)), (1, .int (nI (mdFillK m.2.2.2.2.1 m.2.2.2.2.2.1 m.2.2.2.2.2.2 (k + 1)).1)), (2, .int (nI (k + 1)))] by simp only [mdFillK, if_pos c_18]; rfl))
  exact loop_4 ((m.2.2.2.2.1.2.2.2.2.1 - 0) + 1) 0 (Nat.lt_succ_self _) (by first | assumption | omega | rfl) _ _ _ (wW.eq (show wMd G a m = wMd G a (m.1, m.2.1, m.2.2.1, m.2.2.2.1, m.2.2.2.2.1, m.2.2.2.2.2.1, (mdFillK m.2.2.2.2.1 m.2.2.2.2.2.1 m.2.2.2.2.2.2 0).2) from rfl) hw) (lv_sub hl [2, 1, 0] rfl)

theorem wiX5_whole_mwhole_X5 : ∀ w ∈ wsX50, w ∈ wsX5_whole := by decide +kernel
theorem wmX5_whole_mwhole_0 : Cond.fieldLink RX5 56 "PartSketchModel" "side" "[I" ∈ wsX5_whole := by decide +kernel
theorem wmX5_whole_mwhole_1 : Cond.fieldLink RX5 141 "PartSketchModel" "height" "I" ∈ wsX5_whole := by decide +kernel
set_option maxHeartbeats 4000000 in
set_option maxRecDepth 100000 in
/-- whole -/
theorem c_mwhole (l : Launch) (G : gT) (a : aMd) (m : tMd) (sz : Nat) : MI l yX5_whole wsX5_whole ({ frames := 0, cells := 0, slots := 0, locals := 0 }) G [.ref (a 0)] (wMd G a m) (wMd G a m) sz (mdWhole m.2.2.2.2.1 m.2.2.2.2.2.1) 0 0 := by
  refine m_of (Qc := fun A9 => (va_Qi (fun (r9 : Int32) (_ : Unit) => r9 = (mdWhole m.2.2.2.2.1 m.2.2.2.2.2.1)) (fun _ t9 => wPost G A9 (wMd G a m) t9) A9)) (cc := cX5_whole) (maxL := 1) (ret := (some .int)) (by decide) rfl (Nat.le_of_ble_eq_true rfl) ?_
  intro p9 e9 s9 m9 A9 be9 mt9 c9 H locs ls hx hb hr hts hown hlocks hin hml hK hA hw hl
  have hl : lv_has ls 1 [(0, .ref (a 0))] := hl
  refine lv_aload_n hx hb dX5_whole_0 rfl (lv_at hl 0 rfl) ?_
  refine r_get (ci := 5) (v := .ref (a 16)) (C := RX5) (T := TX5) (N := 29) hx hb hts wiX5_whole_mwhole_X5 hown hK hw 0 rfl rfl 23 (by decide) wmX5_whole_mwhole_0 (fun _ h9 => h9) rfl dX5_whole_1 ?_
  refine lv_bipush (v := 33) hx hb dX5_whole_4 (by decide) ?_
  refine r_iald (v := m.2.2.2.2.2.1.1 33) hx hb hK hw 16 rfl 33 rfl (by omega) (by decide) rfl dX5_whole_6 ?_
  refine lv_aload_n hx hb dX5_whole_7 rfl (lv_at hl 0 rfl) ?_
  refine r_get (ci := 5) (v := .ref (a 16)) (C := RX5) (T := TX5) (N := 29) hx hb hts wiX5_whole_mwhole_X5 hown hK hw 0 rfl rfl 23 (by decide) wmX5_whole_mwhole_0 (fun _ h9 => h9) rfl dX5_whole_8 ?_
  refine lv_bipush (v := 32) hx hb dX5_whole_11 (by decide) ?_
  refine r_iald (v := m.2.2.2.2.2.1.1 32) hx hb hK hw 16 rfl 32 rfl (by omega) (by decide) rfl dX5_whole_13 ?_
  refine lv_isub hx hb dX5_whole_14 ?_
  refine lv_aload_n hx hb dX5_whole_15 rfl (lv_at hl 0 rfl) ?_
  refine r_get (ci := 5) (v := .ref (a 16)) (C := RX5) (T := TX5) (N := 29) hx hb hts wiX5_whole_mwhole_X5 hown hK hw 0 rfl rfl 23 (by decide) wmX5_whole_mwhole_0 (fun _ h9 => h9) rfl dX5_whole_16 ?_
  refine lv_bipush (v := 35) hx hb dX5_whole_19 (by decide) ?_
  refine r_iald (v := m.2.2.2.2.2.1.1 35) hx hb hK hw 16 rfl 35 rfl (by omega) (by decide) rfl dX5_whole_21 ?_
  refine lv_aload_n hx hb dX5_whole_22 rfl (lv_at hl 0 rfl) ?_
  refine r_get (ci := 5) (v := .ref (a 16)) (C := RX5) (T := TX5) (N := 29) hx hb hts wiX5_whole_mwhole_X5 hown hK hw 0 rfl rfl 23 (by decide) wmX5_whole_mwhole_0 (fun _ h9 => h9) rfl dX5_whole_23 ?_
  refine lv_bipush (v := 34) hx hb dX5_whole_26 (by decide) ?_
  refine r_iald (v := m.2.2.2.2.2.1.1 34) hx hb hK hw 16 rfl 34 rfl (by omega) (by decide) rfl dX5_whole_28 ?_
  refine lv_isub hx hb dX5_whole_29 ?_
  refine lv_imul hx hb dX5_whole_30 ?_
  refine lv_aload_n hx hb dX5_whole_31 rfl (lv_at hl 0 rfl) ?_
  refine r_get (ci := 5) (v := .int m.2.2.2.2.1.2.2.2.1) (C := RX5) (T := TX5) (N := 29) hx hb hts wiX5_whole_mwhole_X5 hown hK hw 0 rfl rfl 17 (by decide) wmX5_whole_mwhole_1 (fun _ h9 => h9) rfl dX5_whole_32 ?_
  refine lv_imul hx hb dX5_whole_35 ?_
  exact m_iret hx hb hr hlocks hK hw (Nat.le_of_ble_eq_true rfl) (Nat.le_of_ble_eq_true rfl) dX5_whole_36 (show ((((m.2.2.2.2.2.1.1 33) - (m.2.2.2.2.2.1.1 32)) * ((m.2.2.2.2.2.1.1 35) - (m.2.2.2.2.2.1.1 34))) * m.2.2.2.2.1.2.2.2.1 : Int32) = mdWhole m.2.2.2.2.1 m.2.2.2.2.2.1 by first | rfl | (simp only []; first | done | rfl)) rfl

theorem wiX5_volume_m_volume_X5 : ∀ w ∈ wsX50, w ∈ wsX5_volume := by decide +kernel
theorem wmX5_volume_m_volume_0 : Cond.fieldLink RX5 74 "PartSketchModel" "thrown" "I" ∈ wsX5_volume := by decide +kernel
theorem wmX5_volume_m_volume_1 : Cond.fieldLink RX5 62 "PartSketchModel" "failing" "[Z" ∈ wsX5_volume := by decide +kernel
set_option maxHeartbeats 4000000 in
set_option maxRecDepth 100000 in
/-- volume -/
theorem c_m_volume (l : Launch) (G : gT) (a : aMd) (m : tMd) (hok : mdOk m.2.1) (hB : mdBok m.2.2.2.2.1) (sz : Nat) : MI l yX5_volume wsX5_volume ({ frames := 3, cells := 0, slots := 0, locals := 75 }) G [.ref (a 0)] (wMd G a m) (wMd G a ((mdVolume m).2)) sz ((mdVolume m).1) 0 0 := by
  refine m_of (Qc := fun A9 => (va_Qi (fun (r9 : Int32) (_ : Unit) => r9 = ((mdVolume m).1)) (fun _ t9 => wPost G A9 (wMd G a ((mdVolume m).2)) t9) A9)) (cc := cX5_volume) (maxL := 1) (ret := (some .int)) (by decide) rfl (Nat.le_of_ble_eq_true rfl) ?_
  intro p9 e9 s9 m9 A9 be9 mt9 c9 H locs ls hx hb hr hts hown hlocks hin hml hK hA hw hl
  have hl : lv_has ls 1 [(0, .ref (a 0))] := hl
  refine lv_aload_n hx hb dX5_volume_0 rfl (lv_at hl 0 rfl) ?_
  refine lv_iconst (v := 0) hx hb dX5_volume_1 (by decide) ?_
  refine r_put (ci := 5) (v := .int 0) (ty := .int) (C := RX5) (T := TX5) (N := 29) hx hb hts wiX5_volume_m_volume_X5 tyX5 tyX5_ok nmX5 hown hK hw 0 rfl rfl 0 (by decide) wmX5_volume_m_volume_0 (fun _ h9 => h9) rfl (by decide +kernel) rfl rfl (Nat.le_of_ble_eq_true rfl) dX5_volume_2 (ws' := wMd G a (0, m.2.1, m.2.2.1, m.2.2.2.1, m.2.2.2.2.1, m.2.2.2.2.2.1, m.2.2.2.2.2.2)) rfl (fun H locs hw => ?_)
  refine lv_aload_n hx hb dX5_volume_5 rfl (lv_at hl 0 rfl) ?_
  have hwc : wW G A9 s9.heap (([] : va_W) ++ ((wMd G a (0, m.2.1, m.2.2.1, m.2.2.2.1, m.2.2.2.2.1, m.2.2.2.2.2.1, m.2.2.2.2.2.2)) ++ ([] : va_W))) H locs := hw
  refine r_callv (u := ([] : va_W)) (w := wMd G a (0, m.2.1, m.2.2.1, m.2.2.2.1, m.2.2.2.2.1, m.2.2.2.2.2.1, m.2.2.2.2.2.2)) (v := ([] : va_W)) (va_runV (As := []) (rest := []) ⟨hx, hb, hml, hown, hts⟩ (c_builds l G a (0, m.2.1, m.2.2.1, m.2.2.2.1, m.2.2.2.2.1, m.2.2.2.2.2.1, m.2.2.2.2.2.2) (by first | assumption | omega | decide) (by first | assumption | omega | decide) H.size) (cwV 0 hts gX5_volume_X5_builds rfl rfl rfl (by decide +kernel) ⟨Nat.le_of_ble_eq_true rfl, Nat.le_of_ble_eq_true rfl⟩) (r_preV (ci := 5) (q0 := 0) hK hwc rfl rfl rfl) rfl rfl hl.1 rfl (lv_room (Nat.le_of_ble_eq_true rfl)) dX5_volume_6 ⟨Nat.le_of_ble_eq_true rfl, Nat.le_of_ble_eq_true rfl⟩) hwc hA rfl rfl (fun H locs hw => ?_)
  have hw : wW G A9 s9.heap (wMd G a (0, m.2.1, m.2.2.1, (mdSolve m.2.1 m.2.2.2.1), m.2.2.2.2.1, (mdBuild m.2.1 (mdSolve m.2.1 m.2.2.2.1) m.2.2.2.2.1 m.2.2.2.2.2.1), m.2.2.2.2.2.2)) H locs := hw
  refine lv_aload_n hx hb dX5_volume_9 rfl (lv_at hl 0 rfl) ?_
  refine r_get (ci := 5) (v := .ref (a 18)) (C := RX5) (T := TX5) (N := 29) hx hb hts wiX5_volume_m_volume_X5 hown hK hw 0 rfl rfl 25 (by decide) wmX5_volume_m_volume_1 (fun _ h9 => h9) rfl dX5_volume_10 ?_
  refine lv_bipush (v := 8) hx hb dX5_volume_13 (by decide) ?_
  refine r_zald (v := ((mdBuild m.2.1 (mdSolve m.2.1 m.2.2.2.1) m.2.2.2.2.1 m.2.2.2.2.2.1).2.2) 8) hx hb hK hw 18 rfl 8 rfl (by omega) (by decide) rfl dX5_volume_15 ?_
  refine lv_if_eq (tgt := 23) hx hb dX5_volume_16 (by decide) (fun c_16 => ?_) (fun c_16 => ?_)
  · refine lv_aload_n hx hb dX5_volume_23 rfl (lv_at hl 0 rfl) ?_
    have hwc : wW G A9 s9.heap (([] : va_W) ++ ((wMd G a (0, m.2.1, m.2.2.1, (mdSolve m.2.1 m.2.2.2.1), m.2.2.2.2.1, (mdBuild m.2.1 (mdSolve m.2.1 m.2.2.2.1) m.2.2.2.2.1 m.2.2.2.2.2.1), m.2.2.2.2.2.2)) ++ ([] : va_W))) H locs := hw
    refine r_calli (res := (mdWhole m.2.2.2.2.1 (mdBuild m.2.1 (mdSolve m.2.1 m.2.2.2.1) m.2.2.2.2.1 m.2.2.2.2.2.1))) (u := ([] : va_W)) (w := wMd G a (0, m.2.1, m.2.2.1, (mdSolve m.2.1 m.2.2.2.1), m.2.2.2.2.1, (mdBuild m.2.1 (mdSolve m.2.1 m.2.2.2.1) m.2.2.2.2.1 m.2.2.2.2.2.1), m.2.2.2.2.2.2)) (v := ([] : va_W)) (va_runV (As := []) (rest := []) ⟨hx, hb, hml, hown, hts⟩ (c_mwhole l G a (0, m.2.1, m.2.2.1, (mdSolve m.2.1 m.2.2.2.1), m.2.2.2.2.1, (mdBuild m.2.1 (mdSolve m.2.1 m.2.2.2.1) m.2.2.2.2.1 m.2.2.2.2.2.1), m.2.2.2.2.2.2) H.size) (cwV 0 hts gX5_volume_X5_whole rfl rfl rfl (by decide +kernel) ⟨Nat.le_of_ble_eq_true rfl, Nat.le_of_ble_eq_true rfl⟩) (r_preV (ci := 5) (q0 := 0) hK hwc rfl rfl rfl) rfl rfl hl.1 rfl (lv_room (Nat.le_of_ble_eq_true rfl)) dX5_volume_24 ⟨Nat.le_of_ble_eq_true rfl, Nat.le_of_ble_eq_true rfl⟩) hwc hA rfl rfl (fun H locs hw => ?_)
    have hw : wW G A9 s9.heap (wMd G a (0, m.2.1, m.2.2.1, (mdSolve m.2.1 m.2.2.2.1), m.2.2.2.2.1, (mdBuild m.2.1 (mdSolve m.2.1 m.2.2.2.1) m.2.2.2.2.1 m.2.2.2.2.2.1), m.2.2.2.2.2.2)) H locs := hw
    refine lv_aload_n hx hb dX5_volume_27 rfl (lv_at hl 0 rfl) ?_
    have hwc : wW G A9 s9.heap (([] : va_W) ++ ((wMd G a (0, m.2.1, m.2.2.1, (mdSolve m.2.1 m.2.2.2.1), m.2.2.2.2.1, (mdBuild m.2.1 (mdSolve m.2.1 m.2.2.2.1) m.2.2.2.2.1 m.2.2.2.2.2.1), m.2.2.2.2.2.2)) ++ ([] : va_W))) H locs := hw
    refine r_calli (res := (mdOut m.2.2.2.2.1 (mdBuild m.2.1 (mdSolve m.2.1 m.2.2.2.1) m.2.2.2.2.1 m.2.2.2.2.2.1) m.2.2.2.2.2.2)) (u := ([] : va_W)) (w := wMd G a (0, m.2.1, m.2.2.1, (mdSolve m.2.1 m.2.2.2.1), m.2.2.2.2.1, (mdBuild m.2.1 (mdSolve m.2.1 m.2.2.2.1) m.2.2.2.2.1 m.2.2.2.2.2.1), m.2.2.2.2.2.2)) (v := ([] : va_W)) (va_runV (As := []) (rest := [.int (mdWhole m.2.2.2.2.1 (mdBuild m.2.1 (mdSolve m.2.1 m.2.2.2.1) m.2.2.2.2.1 m.2.2.2.2.2.1))]) ⟨hx, hb, hml, hown, hts⟩ (c_out l G a (0, m.2.1, m.2.2.1, (mdSolve m.2.1 m.2.2.2.1), m.2.2.2.2.1, (mdBuild m.2.1 (mdSolve m.2.1 m.2.2.2.1) m.2.2.2.2.1 m.2.2.2.2.2.1), m.2.2.2.2.2.2) hB.2.2.1 H.size) (cwV 0 hts gX5_volume_X5_out rfl rfl rfl (by decide +kernel) ⟨Nat.le_of_ble_eq_true rfl, Nat.le_of_ble_eq_true rfl⟩) (r_preV (ci := 5) (q0 := 0) hK hwc rfl rfl rfl) rfl rfl hl.1 rfl (lv_room (Nat.le_of_ble_eq_true rfl)) dX5_volume_28 ⟨Nat.le_of_ble_eq_true rfl, Nat.le_of_ble_eq_true rfl⟩) hwc hA rfl rfl (fun H locs hw => ?_)
    have hw : wW G A9 s9.heap (wMd G a (0, m.2.1, m.2.2.1, (mdSolve m.2.1 m.2.2.2.1), m.2.2.2.2.1, (mdBuild m.2.1 (mdSolve m.2.1 m.2.2.2.1) m.2.2.2.2.1 m.2.2.2.2.2.1), (mdCuts m.2.2.2.2.1 (mdBuild m.2.1 (mdSolve m.2.1 m.2.2.2.1) m.2.2.2.2.1 m.2.2.2.2.2.1) m.2.2.2.2.2.2))) H locs := hw
    refine lv_isub hx hb dX5_volume_31 ?_
    exact m_iret hx hb hr hlocks hK hw (Nat.le_of_ble_eq_true rfl) (Nat.le_of_ble_eq_true rfl) dX5_volume_32 (show ((mdWhole m.2.2.2.2.1 (mdBuild m.2.1 (mdSolve m.2.1 m.2.2.2.1) m.2.2.2.2.1 m.2.2.2.2.2.1)) - (mdOut m.2.2.2.2.1 (mdBuild m.2.1 (mdSolve m.2.1 m.2.2.2.1) m.2.2.2.2.1 m.2.2.2.2.2.1) m.2.2.2.2.2.2) : Int32) = (mdVolume m).1 by unfold mdVolume; rw [if_pos (show (mdBuilt m 0).2.2.2.2.2.1.2.2 8 = 0 from c_16)]; first | done | rfl) (show wMd G a (0, m.2.1, m.2.2.1, (mdSolve m.2.1 m.2.2.2.1), m.2.2.2.2.1, (mdBuild m.2.1 (mdSolve m.2.1 m.2.2.2.1) m.2.2.2.2.1 m.2.2.2.2.2.1), (mdCuts m.2.2.2.2.1 (mdBuild m.2.1 (mdSolve m.2.1 m.2.2.2.1) m.2.2.2.2.1 m.2.2.2.2.2.1) m.2.2.2.2.2.2)) = wMd G a ((mdVolume m).2) by unfold mdVolume; rw [if_pos (show (mdBuilt m 0).2.2.2.2.2.1.2.2 8 = 0 from c_16)]; first | done | rfl)
  · refine lv_iconst (v := 0) hx hb dX5_volume_19 (by decide) ?_
    refine lv_goto (tgt := 32) hx hb dX5_volume_20 (by decide) ?_
    exact m_iret hx hb hr hlocks hK hw (Nat.le_of_ble_eq_true rfl) (Nat.le_of_ble_eq_true rfl) dX5_volume_32 (show (0 : Int32) = (mdVolume m).1 by unfold mdVolume; rw [if_neg (show ¬ (mdBuilt m 0).2.2.2.2.2.1.2.2 8 = 0 from c_16)]) (show wMd G a (0, m.2.1, m.2.2.1, (mdSolve m.2.1 m.2.2.2.1), m.2.2.2.2.1, (mdBuild m.2.1 (mdSolve m.2.1 m.2.2.2.1) m.2.2.2.2.1 m.2.2.2.2.2.1), m.2.2.2.2.2.2) = wMd G a ((mdVolume m).2) by unfold mdVolume; rw [if_neg (show ¬ (mdBuilt m 0).2.2.2.2.2.1.2.2 8 = 0 from c_16)]; first | done | rfl)

theorem wiX5_price_m_price_X5 : ∀ w ∈ wsX50, w ∈ wsX5_price := by decide +kernel
theorem wmX5_price_m_price_0 : Cond.fieldLink RX5 74 "PartSketchModel" "thrown" "I" ∈ wsX5_price := by decide +kernel
theorem wmX5_price_m_price_1 : Cond.fieldLink RX5 62 "PartSketchModel" "failing" "[Z" ∈ wsX5_price := by decide +kernel
theorem wmX5_price_m_price_2 : Cond.fieldLink RX5 134 "PartSketchModel" "pockets" "I" ∈ wsX5_price := by decide +kernel
theorem wmX5_price_m_price_3 : Cond.fieldLink RX5 50 "PartSketchModel" "depth" "[I" ∈ wsX5_price := by decide +kernel
set_option maxHeartbeats 4000000 in
set_option maxRecDepth 100000 in
/-- price -/
theorem c_m_price (l : Launch) (G : gT) (a : aMd) (m : tMd) (hok : mdOk m.2.1) (hB : mdBok m.2.2.2.2.1) (sz : Nat) : MI l yX5_price wsX5_price ({ frames := 3, cells := 0, slots := 0, locals := 75 }) G [.ref (a 0)] (wMd G a m) (wMd G a ((mdPrice m).2)) sz ((mdPrice m).1) 0 0 := by
  have h8 := hB.2.2.1
  refine m_of (Qc := fun A9 => (va_Qi (fun (r9 : Int32) (_ : Unit) => r9 = ((mdPrice m).1)) (fun _ t9 => wPost G A9 (wMd G a ((mdPrice m).2)) t9) A9)) (cc := cX5_price) (maxL := 5) (ret := (some .int)) (by decide) rfl (Nat.le_of_ble_eq_true rfl) ?_
  intro p9 e9 s9 m9 A9 be9 mt9 c9 H locs ls hx hb hr hts hown hlocks hin hml hK hA hw hl
  have hl : lv_has ls 5 [(0, .ref (a 0))] := hl
  refine lv_aload_n hx hb dX5_price_0 rfl (lv_at hl 0 rfl) ?_
  refine lv_iconst (v := 0) hx hb dX5_price_1 (by decide) ?_
  refine r_put (ci := 5) (v := .int 0) (ty := .int) (C := RX5) (T := TX5) (N := 29) hx hb hts wiX5_price_m_price_X5 tyX5 tyX5_ok nmX5 hown hK hw 0 rfl rfl 0 (by decide) wmX5_price_m_price_0 (fun _ h9 => h9) rfl (by decide +kernel) rfl rfl (Nat.le_of_ble_eq_true rfl) dX5_price_2 (ws' := wMd G a (0, m.2.1, m.2.2.1, m.2.2.2.1, m.2.2.2.2.1, m.2.2.2.2.2.1, m.2.2.2.2.2.2)) rfl (fun H locs hw => ?_)
  refine lv_aload_n hx hb dX5_price_5 rfl (lv_at hl 0 rfl) ?_
  have hwc : wW G A9 s9.heap (([] : va_W) ++ ((wMd G a (0, m.2.1, m.2.2.1, m.2.2.2.1, m.2.2.2.2.1, m.2.2.2.2.2.1, m.2.2.2.2.2.2)) ++ ([] : va_W))) H locs := hw
  refine r_callv (u := ([] : va_W)) (w := wMd G a (0, m.2.1, m.2.2.1, m.2.2.2.1, m.2.2.2.2.1, m.2.2.2.2.2.1, m.2.2.2.2.2.2)) (v := ([] : va_W)) (va_runV (As := []) (rest := []) ⟨hx, hb, hml, hown, hts⟩ (c_builds l G a (0, m.2.1, m.2.2.1, m.2.2.2.1, m.2.2.2.2.1, m.2.2.2.2.2.1, m.2.2.2.2.2.2) (by first | assumption | omega | decide) (by first | assumption | omega | decide) H.size) (cwV 0 hts gX5_price_X5_builds rfl rfl rfl (by decide +kernel) ⟨Nat.le_of_ble_eq_true rfl, Nat.le_of_ble_eq_true rfl⟩) (r_preV (ci := 5) (q0 := 0) hK hwc rfl rfl rfl) rfl rfl hl.1 rfl (lv_room (Nat.le_of_ble_eq_true rfl)) dX5_price_6 ⟨Nat.le_of_ble_eq_true rfl, Nat.le_of_ble_eq_true rfl⟩) hwc hA rfl rfl (fun H locs hw => ?_)
  have hw : wW G A9 s9.heap (wMd G a (0, m.2.1, m.2.2.1, (mdSolve m.2.1 m.2.2.2.1), m.2.2.2.2.1, (mdBuild m.2.1 (mdSolve m.2.1 m.2.2.2.1) m.2.2.2.2.1 m.2.2.2.2.2.1), m.2.2.2.2.2.2)) H locs := hw
  refine lv_aload_n hx hb dX5_price_9 rfl (lv_at hl 0 rfl) ?_
  refine r_get (ci := 5) (v := .ref (a 18)) (C := RX5) (T := TX5) (N := 29) hx hb hts wiX5_price_m_price_X5 hown hK hw 0 rfl rfl 25 (by decide) wmX5_price_m_price_1 (fun _ h9 => h9) rfl dX5_price_10 ?_
  refine lv_bipush (v := 8) hx hb dX5_price_13 (by decide) ?_
  refine r_zald (v := ((mdBuild m.2.1 (mdSolve m.2.1 m.2.2.2.1) m.2.2.2.2.1 m.2.2.2.2.2.1).2.2) 8) hx hb hK hw 18 rfl 8 rfl (by omega) (by decide) rfl dX5_price_15 ?_
  refine lv_if_eq (tgt := 21) hx hb dX5_price_16 (by decide) (fun c_16 => ?_) (fun c_16 => ?_)
  · refine lv_iconst (v := 0) hx hb dX5_price_21 (by decide) ?_
    refine lv_istore_n (lv' := [(1, .int 0), (0, .ref (a 0))]) hx hb dX5_price_22 rfl hl (by decide) rfl (fun ls hl => ?_)
    refine lv_iconst (v := 0) hx hb dX5_price_23 (by decide) ?_
    refine lv_istore_n (lv' := [(2, .int 0), (1, .int 0), (0, .ref (a 0))]) hx hb dX5_price_24 rfl hl (by decide) rfl (fun ls hl => ?_)
    have loop_25 : ∀ (nf : Nat) (k : Nat) (hnf : (m.2.2.2.2.1.2.2.2.2.1 - k) < nf) (hk : k ≤ m.2.2.2.2.1.2.2.2.2.1), ∀ (H : Heap) (locs : List Loc) (ls : Array Slot), wW G A9 s9.heap (wMd G a (0, m.2.1, m.2.2.1, (mdSolve m.2.1 m.2.2.2.1), m.2.2.2.2.1, (mdBuild m.2.1 (mdSolve m.2.1 m.2.2.2.1) m.2.2.2.2.1 m.2.2.2.2.2.1), m.2.2.2.2.2.2)) H locs → lv_has ls 5 [(0, .ref (a 0)), (1, .int (mdUn (mdBuild m.2.1 (mdSolve m.2.1 m.2.2.2.1) m.2.2.2.2.1 m.2.2.2.2.2.1).2.2 m.2.2.2.2.1.2.2.2.2.2.2.2.1 k)), (2, .int (nI k))] → W p9 l e9 ({ frames := 3, cells := 0, slots := 0, locals := 75 }) s9 m9 [.ref (a 0)].toArray be9 mt9 c9 H locs 0 0 (MQ be9 (va_Qi (fun (r9 : Int32) (_ : Unit) => r9 = ((mdPrice m).1)) (fun _ t9 => wPost G A9 (wMd G a ((mdPrice m).2)) t9) A9) [.ref (a 0)].toArray s9 0 0 A9) (F0 m9 25 ls []) := by
      intro nf
      induction nf with
      | zero => intro k hnf hk; exact absurd hnf (Nat.not_lt_zero _)
      | succ nf ih_25 =>
        intro k hnf hk H locs ls hw hl
        refine lv_iload_n hx hb dX5_price_25 rfl (lv_at hl 2 rfl) ?_
        refine lv_aload_n hx hb dX5_price_26 rfl (lv_at hl 0 rfl) ?_
        refine r_get (ci := 5) (v := .int (nI m.2.2.2.2.1.2.2.2.2.1)) (C := RX5) (T := TX5) (N := 29) hx hb hts wiX5_price_m_price_X5 hown hK hw 0 rfl rfl 18 (by decide) wmX5_price_m_price_2 (fun _ h9 => h9) rfl dX5_price_27 ?_
        refine lv_icmp_ge (tgt := 117) hx hb dX5_price_30 (by decide) (fun c_30 => ?_) (fun c_30 => ?_)
        · have hx_30 : m.2.2.2.2.1.2.2.2.2.1 ≤ k := ct_ge (k := k) (n := m.2.2.2.2.1.2.2.2.2.1) (by omega) (by omega) c_30
          refine lv_iconst (v := 2) hx hb dX5_price_117 (by decide) ?_
          refine lv_aload_n hx hb dX5_price_118 rfl (lv_at hl 0 rfl) ?_
          have hwc : wW G A9 s9.heap (([] : va_W) ++ ((wMd G a (0, m.2.1, m.2.2.1, (mdSolve m.2.1 m.2.2.2.1), m.2.2.2.2.1, (mdBuild m.2.1 (mdSolve m.2.1 m.2.2.2.1) m.2.2.2.2.1 m.2.2.2.2.2.1), m.2.2.2.2.2.2)) ++ ([] : va_W))) H locs := hw
          refine r_calli (res := (mdWhole m.2.2.2.2.1 (mdBuild m.2.1 (mdSolve m.2.1 m.2.2.2.1) m.2.2.2.2.1 m.2.2.2.2.2.1))) (u := ([] : va_W)) (w := wMd G a (0, m.2.1, m.2.2.1, (mdSolve m.2.1 m.2.2.2.1), m.2.2.2.2.1, (mdBuild m.2.1 (mdSolve m.2.1 m.2.2.2.1) m.2.2.2.2.1 m.2.2.2.2.2.1), m.2.2.2.2.2.2)) (v := ([] : va_W)) (va_runV (As := []) (rest := [.int 2]) ⟨hx, hb, hml, hown, hts⟩ (c_mwhole l G a (0, m.2.1, m.2.2.1, (mdSolve m.2.1 m.2.2.2.1), m.2.2.2.2.1, (mdBuild m.2.1 (mdSolve m.2.1 m.2.2.2.1) m.2.2.2.2.1 m.2.2.2.2.2.1), m.2.2.2.2.2.2) H.size) (cwV 0 hts gX5_price_X5_whole rfl rfl rfl (by decide +kernel) ⟨Nat.le_of_ble_eq_true rfl, Nat.le_of_ble_eq_true rfl⟩) (r_preV (ci := 5) (q0 := 0) hK hwc rfl rfl rfl) rfl rfl hl.1 rfl (lv_room (Nat.le_of_ble_eq_true rfl)) dX5_price_119 ⟨Nat.le_of_ble_eq_true rfl, Nat.le_of_ble_eq_true rfl⟩) hwc hA rfl rfl (fun H locs hw => ?_)
          have hw : wW G A9 s9.heap (wMd G a (0, m.2.1, m.2.2.1, (mdSolve m.2.1 m.2.2.2.1), m.2.2.2.2.1, (mdBuild m.2.1 (mdSolve m.2.1 m.2.2.2.1) m.2.2.2.2.1 m.2.2.2.2.2.1), m.2.2.2.2.2.2)) H locs := hw
          refine lv_imul hx hb dX5_price_122 ?_
          refine lv_aload_n hx hb dX5_price_123 rfl (lv_at hl 0 rfl) ?_
          have hwc : wW G A9 s9.heap (([] : va_W) ++ ((wMd G a (0, m.2.1, m.2.2.1, (mdSolve m.2.1 m.2.2.2.1), m.2.2.2.2.1, (mdBuild m.2.1 (mdSolve m.2.1 m.2.2.2.1) m.2.2.2.2.1 m.2.2.2.2.2.1), m.2.2.2.2.2.2)) ++ ([] : va_W))) H locs := hw
          refine r_calli (res := (mdOut m.2.2.2.2.1 (mdBuild m.2.1 (mdSolve m.2.1 m.2.2.2.1) m.2.2.2.2.1 m.2.2.2.2.2.1) m.2.2.2.2.2.2)) (u := ([] : va_W)) (w := wMd G a (0, m.2.1, m.2.2.1, (mdSolve m.2.1 m.2.2.2.1), m.2.2.2.2.1, (mdBuild m.2.1 (mdSolve m.2.1 m.2.2.2.1) m.2.2.2.2.1 m.2.2.2.2.2.1), m.2.2.2.2.2.2)) (v := ([] : va_W)) (va_runV (As := []) (rest := [.int (2 * (mdWhole m.2.2.2.2.1 (mdBuild m.2.1 (mdSolve m.2.1 m.2.2.2.1) m.2.2.2.2.1 m.2.2.2.2.2.1)))]) ⟨hx, hb, hml, hown, hts⟩ (c_out l G a (0, m.2.1, m.2.2.1, (mdSolve m.2.1 m.2.2.2.1), m.2.2.2.2.1, (mdBuild m.2.1 (mdSolve m.2.1 m.2.2.2.1) m.2.2.2.2.1 m.2.2.2.2.2.1), m.2.2.2.2.2.2) h8 H.size) (cwV 0 hts gX5_price_X5_out rfl rfl rfl (by decide +kernel) ⟨Nat.le_of_ble_eq_true rfl, Nat.le_of_ble_eq_true rfl⟩) (r_preV (ci := 5) (q0 := 0) hK hwc rfl rfl rfl) rfl rfl hl.1 rfl (lv_room (Nat.le_of_ble_eq_true rfl)) dX5_price_124 ⟨Nat.le_of_ble_eq_true rfl, Nat.le_of_ble_eq_true rfl⟩) hwc hA rfl rfl (fun H locs hw => ?_)
          have hw : wW G A9 s9.heap (wMd G a (0, m.2.1, m.2.2.1, (mdSolve m.2.1 m.2.2.2.1), m.2.2.2.2.1, (mdBuild m.2.1 (mdSolve m.2.1 m.2.2.2.1) m.2.2.2.2.1 m.2.2.2.2.2.1), (mdCuts m.2.2.2.2.1 (mdBuild m.2.1 (mdSolve m.2.1 m.2.2.2.1) m.2.2.2.2.1 m.2.2.2.2.2.1) m.2.2.2.2.2.2))) H locs := hw
          refine lv_iadd hx hb dX5_price_127 ?_
          refine lv_bipush (v := 100) hx hb dX5_price_128 (by decide) ?_
          refine lv_iload_n hx hb dX5_price_130 rfl (lv_at hl 1 rfl) ?_
          refine lv_imul hx hb dX5_price_131 ?_
          refine lv_iadd hx hb dX5_price_132 ?_
          exact m_iret hx hb hr hlocks hK hw (Nat.le_of_ble_eq_true rfl) (Nat.le_of_ble_eq_true rfl) dX5_price_133 (show (((2 * (mdWhole m.2.2.2.2.1 (mdBuild m.2.1 (mdSolve m.2.1 m.2.2.2.1) m.2.2.2.2.1 m.2.2.2.2.2.1))) + (mdOut m.2.2.2.2.1 (mdBuild m.2.1 (mdSolve m.2.1 m.2.2.2.1) m.2.2.2.2.1 m.2.2.2.2.2.1) m.2.2.2.2.2.2)) + (100 * (mdUn (mdBuild m.2.1 (mdSolve m.2.1 m.2.2.2.1) m.2.2.2.2.1 m.2.2.2.2.2.1).2.2 m.2.2.2.2.1.2.2.2.2.2.2.2.1 k)) : Int32) = (mdPrice m).1 by rw [show k = m.2.2.2.2.1.2.2.2.2.1 by omega]; unfold mdPrice; rw [if_pos (show (mdBuilt m 0).2.2.2.2.2.1.2.2 8 = 0 from c_16)]; first | done | rfl) (show wMd G a (0, m.2.1, m.2.2.1, (mdSolve m.2.1 m.2.2.2.1), m.2.2.2.2.1, (mdBuild m.2.1 (mdSolve m.2.1 m.2.2.2.1) m.2.2.2.2.1 m.2.2.2.2.2.1), (mdCuts m.2.2.2.2.1 (mdBuild m.2.1 (mdSolve m.2.1 m.2.2.2.1) m.2.2.2.2.1 m.2.2.2.2.2.1) m.2.2.2.2.2.2)) = wMd G a ((mdPrice m).2) by unfold mdPrice; rw [if_pos (show (mdBuilt m 0).2.2.2.2.2.1.2.2 8 = 0 from c_16)]; first | done | rfl)
        · have hc_30 : k < m.2.2.2.2.1.2.2.2.2.1 := ct_nge (k := k) (n := m.2.2.2.2.1.2.2.2.2.1) (by omega) (by omega) c_30
          have join_47 : ∀ (v : Int32) (hv : v = mdFuK (mdBuild m.2.1 (mdSolve m.2.1 m.2.2.2.1) m.2.2.2.2.1 m.2.2.2.2.2.1).2.2 m.2.2.2.2.1.2.2.2.2.2.2.2.1 k 0) (H : Heap) (locs : List Loc) (ls : Array Slot), wW G A9 s9.heap (wMd G a (0, m.2.1, m.2.2.1, (mdSolve m.2.1 m.2.2.2.1), m.2.2.2.2.1, (mdBuild m.2.1 (mdSolve m.2.1 m.2.2.2.1) m.2.2.2.2.1 m.2.2.2.2.2.1), m.2.2.2.2.2.2)) H locs → lv_has ls 5 [(0, .ref (a 0)), (1, .int (mdUn (mdBuild m.2.1 (mdSolve m.2.1 m.2.2.2.1) m.2.2.2.2.1 m.2.2.2.2.2.1).2.2 m.2.2.2.2.1.2.2.2.2.2.2.2.1 k)), (2, .int (nI k))] → W p9 l e9 ({ frames := 3, cells := 0, slots := 0, locals := 75 }) s9 m9 [.ref (a 0)].toArray be9 mt9 c9 H locs 0 0 (MQ be9 (va_Qi (fun (r9 : Int32) (_ : Unit) => r9 = ((mdPrice m).1)) (fun _ t9 => wPost G A9 (wMd G a ((mdPrice m).2)) t9) A9) [.ref (a 0)].toArray s9 0 0 A9) (F0 m9 47 ls [.int v]) := by
            intro v hv H locs ls hw hl
            refine lv_istore_n (lv' := [(3, .int v), (0, .ref (a 0)), (1, .int (mdUn (mdBuild m.2.1 (mdSolve m.2.1 m.2.2.2.1) m.2.2.2.2.1 m.2.2.2.2.2.1).2.2 m.2.2.2.2.1.2.2.2.2.2.2.2.1 k)), (2, .int (nI k))]) hx hb dX5_price_47 rfl hl (by decide) rfl (fun ls hl => ?_)
            subst hv
            have hl : lv_has ls 5 [(3, .int (mdFuK (mdBuild m.2.1 (mdSolve m.2.1 m.2.2.2.1) m.2.2.2.2.1 m.2.2.2.2.2.1).2.2 m.2.2.2.2.1.2.2.2.2.2.2.2.1 k 0)), (0, .ref (a 0)), (1, .int (mdUn (mdBuild m.2.1 (mdSolve m.2.1 m.2.2.2.1) m.2.2.2.2.1 m.2.2.2.2.2.1).2.2 m.2.2.2.2.1.2.2.2.2.2.2.2.1 k)), (2, .int (nI k))] := hl
            refine lv_iconst (v := 0) hx hb dX5_price_48 (by decide) ?_
            refine lv_istore (lv' := [(4, .int 0), (3, .int (mdFuK (mdBuild m.2.1 (mdSolve m.2.1 m.2.2.2.1) m.2.2.2.2.1 m.2.2.2.2.2.1).2.2 m.2.2.2.2.1.2.2.2.2.2.2.2.1 k 0)), (0, .ref (a 0)), (1, .int (mdUn (mdBuild m.2.1 (mdSolve m.2.1 m.2.2.2.1) m.2.2.2.2.1 m.2.2.2.2.2.1).2.2 m.2.2.2.2.1.2.2.2.2.2.2.2.1 k)), (2, .int (nI k))]) hx hb dX5_price_49 hl (by decide) rfl (fun ls hl => ?_)
            have loop_51 : ∀ (nf : Nat) (n : Nat) (hnf : (k - n) < nf) (hn : n ≤ k), ∀ (H : Heap) (locs : List Loc) (ls : Array Slot), wW G A9 s9.heap (wMd G a (0, m.2.1, m.2.2.1, (mdSolve m.2.1 m.2.2.2.1), m.2.2.2.2.1, (mdBuild m.2.1 (mdSolve m.2.1 m.2.2.2.1) m.2.2.2.2.1 m.2.2.2.2.2.1), m.2.2.2.2.2.2)) H locs → lv_has ls 5 [(0, .ref (a 0)), (1, .int (mdUn (mdBuild m.2.1 (mdSolve m.2.1 m.2.2.2.1) m.2.2.2.2.1 m.2.2.2.2.2.1).2.2 m.2.2.2.2.1.2.2.2.2.2.2.2.1 k)), (2, .int (nI k)), (3, .int (mdFuK (mdBuild m.2.1 (mdSolve m.2.1 m.2.2.2.1) m.2.2.2.2.1 m.2.2.2.2.2.1).2.2 m.2.2.2.2.1.2.2.2.2.2.2.2.1 k n)), (4, .int (nI n))] → W p9 l e9 ({ frames := 3, cells := 0, slots := 0, locals := 75 }) s9 m9 [.ref (a 0)].toArray be9 mt9 c9 H locs 0 0 (MQ be9 (va_Qi (fun (r9 : Int32) (_ : Unit) => r9 = ((mdPrice m).1)) (fun _ t9 => wPost G A9 (wMd G a ((mdPrice m).2)) t9) A9) [.ref (a 0)].toArray s9 0 0 A9) (F0 m9 51 ls []) := by
              intro nf
              induction nf with
              | zero => intro n hnf hn; exact absurd hnf (Nat.not_lt_zero _)
              | succ nf ih_51 =>
                intro n hnf hn H locs ls hw hl
                refine lv_iload hx hb dX5_price_51 (lv_at hl 4 rfl) ?_
                refine lv_iload_n hx hb dX5_price_53 rfl (lv_at hl 2 rfl) ?_
                refine lv_icmp_ge (tgt := 99) hx hb dX5_price_54 (by decide) (fun c_54 => ?_) (fun c_54 => ?_)
                · have hx_54 : k ≤ n := ct_ge (k := n) (n := k) (by omega) (by omega) c_54
                  have join_109 : ∀ (z : Int32) (hz : z = if mdFuK (mdBuild m.2.1 (mdSolve m.2.1 m.2.2.2.1) m.2.2.2.2.1 m.2.2.2.2.2.1).2.2 m.2.2.2.2.1.2.2.2.2.2.2.2.1 k k = 0 then 0 else 1) (H : Heap) (locs : List Loc) (ls : Array Slot), wW G A9 s9.heap (wMd G a (0, m.2.1, m.2.2.1, (mdSolve m.2.1 m.2.2.2.1), m.2.2.2.2.1, (mdBuild m.2.1 (mdSolve m.2.1 m.2.2.2.1) m.2.2.2.2.1 m.2.2.2.2.2.1), m.2.2.2.2.2.2)) H locs → lv_has ls 5 [(0, .ref (a 0)), (1, .int (mdUn (mdBuild m.2.1 (mdSolve m.2.1 m.2.2.2.1) m.2.2.2.2.1 m.2.2.2.2.2.1).2.2 m.2.2.2.2.1.2.2.2.2.2.2.2.1 k)), (2, .int (nI k)), (3, .int (mdFuK (mdBuild m.2.1 (mdSolve m.2.1 m.2.2.2.1) m.2.2.2.2.1 m.2.2.2.2.2.1).2.2 m.2.2.2.2.1.2.2.2.2.2.2.2.1 k n)), (4, .int (nI n))] → W p9 l e9 ({ frames := 3, cells := 0, slots := 0, locals := 75 }) s9 m9 [.ref (a 0)].toArray be9 mt9 c9 H locs 0 0 (MQ be9 (va_Qi (fun (r9 : Int32) (_ : Unit) => r9 = ((mdPrice m).1)) (fun _ t9 => wPost G A9 (wMd G a ((mdPrice m).2)) t9) A9) [.ref (a 0)].toArray s9 0 0 A9) (F0 m9 109 ls [.int z, .int (mdUn (mdBuild m.2.1 (mdSolve m.2.1 m.2.2.2.1) m.2.2.2.2.1 m.2.2.2.2.2.1).2.2 m.2.2.2.2.1.2.2.2.2.2.2.2.1 k)]) := by
                    intro z hz H locs ls hw hl
                    refine lv_iadd hx hb dX5_price_109 ?_
                    refine lv_istore_n (lv' := [(1, .int ((mdUn (mdBuild m.2.1 (mdSolve m.2.1 m.2.2.2.1) m.2.2.2.2.1 m.2.2.2.2.2.1).2.2 m.2.2.2.2.1.2.2.2.2.2.2.2.1 k) + z)), (0, .ref (a 0)), (2, .int (nI k)), (3, .int (mdFuK (mdBuild m.2.1 (mdSolve m.2.1 m.2.2.2.1) m.2.2.2.2.1 m.2.2.2.2.2.1).2.2 m.2.2.2.2.1.2.2.2.2.2.2.2.1 k n)), (4, .int (nI n))]) hx hb dX5_price_110 rfl hl (by decide) rfl (fun ls hl => ?_)
                    refine lv_iinc (v := nI (k + 1)) (lv' := [(2, .int (nI (k + 1))), (1, .int ((mdUn (mdBuild m.2.1 (mdSolve m.2.1 m.2.2.2.1) m.2.2.2.2.1 m.2.2.2.2.2.1).2.2 m.2.2.2.2.1.2.2.2.2.2.2.2.1 k) + z)), (0, .ref (a 0)), (3, .int (mdFuK (mdBuild m.2.1 (mdSolve m.2.1 m.2.2.2.1) m.2.2.2.2.1 m.2.2.2.2.2.1).2.2 m.2.2.2.2.1.2.2.2.2.2.2.2.1 k n)), (4, .int (nI n))]) hx hb dX5_price_111 hl (k := 2) rfl (nI_add k 1) (by decide) rfl (fun ls hl => ?_)
                    refine lv_goto (tgt := 25) hx hb dX5_price_114 (by decide) ?_
                    exact ih_25 (k + 1) (by omega) (by first | assumption | omega | rfl) _ _ _ hw (lv_sub hl [2, 1, 0] (show lv_pick [(2, .int (nI (k + 1))), (1, .int ((mdUn (mdBuild m.2.1 (mdSolve m.2.1 m.2.2.2.1) m.2.2.2.2.1 m.2.2.2.2.2.1).2.2 m.2.2.2.2.1.2.2.2.2.2.2.2.1 k) + z)), (0, .ref (a 0)), (3, .int (mdFuK (mdBuild m.2.1 (mdSolve m.2.1 m.2.2.2.1) m.2.2.2.2.1 m.2.2.2.2.2.1).2.2 m.2.2.2.2.1.2.2.2.2.2.2.2.1 k n)), (4, .int (nI n))] [2, 1, 0] = [(0, .ref (a 0)), (1, .int (mdUn (mdBuild m.2.1 (mdSolve m.2.1 m.2.2.2.1) m.2.2.2.2.1 m.2.2.2.2.2.1).2.2 m.2.2.2.2.1.2.2.2.2.2.2.2.1 (k + 1))), (2, .int (nI (k + 1)))] by rw [hz]; rfl))
                  refine lv_iload_n hx hb dX5_price_99 rfl (lv_at hl 1 rfl) ?_
                  refine lv_iload_n hx hb dX5_price_100 rfl (lv_at hl 3 rfl) ?_
                  refine lv_if_eq (tgt := 108) hx hb dX5_price_101 (by decide) (fun c_101 => ?_) (fun c_101 => ?_)
                  · refine lv_iconst (v := 0) hx hb dX5_price_108 (by decide) ?_
                    exact join_109 0 (by rw [show n = k by omega] at c_101; simp only [if_pos c_101]) _ _ _ hw (lv_sub hl [0, 1, 2, 3, 4] rfl)
                  · refine lv_iconst (v := 1) hx hb dX5_price_104 (by decide) ?_
                    refine lv_goto (tgt := 109) hx hb dX5_price_105 (by decide) ?_
                    exact join_109 1 (by rw [show n = k by omega] at c_101; simp only [if_neg c_101]) _ _ _ hw (lv_sub hl [0, 1, 2, 3, 4] rfl)
                · have hc_54 : n < k := ct_nge (k := n) (n := k) (by omega) (by omega) c_54
                  have join_92 : ∀ (v2 : Int32) (hv2 : v2 = mdFuK (mdBuild m.2.1 (mdSolve m.2.1 m.2.2.2.1) m.2.2.2.2.1 m.2.2.2.2.2.1).2.2 m.2.2.2.2.1.2.2.2.2.2.2.2.1 k (n + 1)) (H : Heap) (locs : List Loc) (ls : Array Slot), wW G A9 s9.heap (wMd G a (0, m.2.1, m.2.2.1, (mdSolve m.2.1 m.2.2.2.1), m.2.2.2.2.1, (mdBuild m.2.1 (mdSolve m.2.1 m.2.2.2.1) m.2.2.2.2.1 m.2.2.2.2.2.1), m.2.2.2.2.2.2)) H locs → lv_has ls 5 [(0, .ref (a 0)), (1, .int (mdUn (mdBuild m.2.1 (mdSolve m.2.1 m.2.2.2.1) m.2.2.2.2.1 m.2.2.2.2.2.1).2.2 m.2.2.2.2.1.2.2.2.2.2.2.2.1 k)), (2, .int (nI k)), (3, .int (mdFuK (mdBuild m.2.1 (mdSolve m.2.1 m.2.2.2.1) m.2.2.2.2.1 m.2.2.2.2.2.1).2.2 m.2.2.2.2.1.2.2.2.2.2.2.2.1 k n)), (4, .int (nI n))] → W p9 l e9 ({ frames := 3, cells := 0, slots := 0, locals := 75 }) s9 m9 [.ref (a 0)].toArray be9 mt9 c9 H locs 0 0 (MQ be9 (va_Qi (fun (r9 : Int32) (_ : Unit) => r9 = ((mdPrice m).1)) (fun _ t9 => wPost G A9 (wMd G a ((mdPrice m).2)) t9) A9) [.ref (a 0)].toArray s9 0 0 A9) (F0 m9 92 ls [.int v2]) := by
                    intro v2 hv2 H locs ls hw hl
                    refine lv_istore_n (lv' := [(3, .int v2), (0, .ref (a 0)), (1, .int (mdUn (mdBuild m.2.1 (mdSolve m.2.1 m.2.2.2.1) m.2.2.2.2.1 m.2.2.2.2.2.1).2.2 m.2.2.2.2.1.2.2.2.2.2.2.2.1 k)), (2, .int (nI k)), (4, .int (nI n))]) hx hb dX5_price_92 rfl hl (by decide) rfl (fun ls hl => ?_)
                    refine lv_iinc (v := nI (n + 1)) (lv' := [(4, .int (nI (n + 1))), (3, .int v2), (0, .ref (a 0)), (1, .int (mdUn (mdBuild m.2.1 (mdSolve m.2.1 m.2.2.2.1) m.2.2.2.2.1 m.2.2.2.2.2.1).2.2 m.2.2.2.2.1.2.2.2.2.2.2.2.1 k)), (2, .int (nI k))]) hx hb dX5_price_93 hl (k := 4) rfl (nI_add n 1) (by decide) rfl (fun ls hl => ?_)
                    refine lv_goto (tgt := 51) hx hb dX5_price_96 (by decide) ?_
                    exact ih_51 (n + 1) (by omega) (by first | assumption | omega | rfl) _ _ _ hw (lv_sub hl [2, 3, 4, 1, 0] (show lv_pick [(4, .int (nI (n + 1))), (3, .int v2), (0, .ref (a 0)), (1, .int (mdUn (mdBuild m.2.1 (mdSolve m.2.1 m.2.2.2.1) m.2.2.2.2.1 m.2.2.2.2.2.1).2.2 m.2.2.2.2.1.2.2.2.2.2.2.2.1 k)), (2, .int (nI k))] [2, 3, 4, 1, 0] = [(0, .ref (a 0)), (1, .int (mdUn (mdBuild m.2.1 (mdSolve m.2.1 m.2.2.2.1) m.2.2.2.2.1 m.2.2.2.2.2.1).2.2 m.2.2.2.2.1.2.2.2.2.2.2.2.1 k)), (2, .int (nI k)), (3, .int (mdFuK (mdBuild m.2.1 (mdSolve m.2.1 m.2.2.2.1) m.2.2.2.2.1 m.2.2.2.2.2.1).2.2 m.2.2.2.2.1.2.2.2.2.2.2.2.1 k (n + 1))), (4, .int (nI (n + 1)))] by rw [hv2]; rfl))
                  refine lv_iload_n hx hb dX5_price_57 rfl (lv_at hl 3 rfl) ?_
                  refine lv_if_eq (tgt := 91) hx hb dX5_price_58 (by decide) (fun c_58 => ?_) (fun c_58 => ?_)
                  · refine lv_iconst (v := 0) hx hb dX5_price_91 (by decide) ?_
                    exact join_92 0 (by simp only [mdFuK, if_pos c_58]) _ _ _ hw (lv_sub hl [0, 1, 2, 3, 4] rfl)
                  · refine lv_aload_n hx hb dX5_price_61 rfl (lv_at hl 0 rfl) ?_
                    refine r_get (ci := 5) (v := .ref (a 18)) (C := RX5) (T := TX5) (N := 29) hx hb hts wiX5_price_m_price_X5 hown hK hw 0 rfl rfl 25 (by decide) wmX5_price_m_price_1 (fun _ h9 => h9) rfl dX5_price_62 ?_
                    refine lv_iload hx hb dX5_price_65 (lv_at hl 4 rfl) ?_
                    refine r_zald (v := ((mdBuild m.2.1 (mdSolve m.2.1 m.2.2.2.1) m.2.2.2.2.1 m.2.2.2.2.2.1).2.2) n) hx hb hK hw 18 rfl n rfl (by omega) (by decide) rfl dX5_price_67 ?_
                    refine lv_if_ne (tgt := 87) hx hb dX5_price_68 (by decide) (fun c_68 => ?_) (fun c_68 => ?_)
                    · refine lv_iconst (v := 1) hx hb dX5_price_87 (by decide) ?_
                      refine lv_goto (tgt := 92) hx hb dX5_price_88 (by decide) ?_
                      exact join_92 1 (by simp only [mdFuK, if_neg c_58, if_neg c_68]) _ _ _ hw (lv_sub hl [0, 1, 2, 3, 4] rfl)
                    · refine lv_aload_n hx hb dX5_price_71 rfl (lv_at hl 0 rfl) ?_
                      refine r_get (ci := 5) (v := .ref (a 14)) (C := RX5) (T := TX5) (N := 29) hx hb hts wiX5_price_m_price_X5 hown hK hw 0 rfl rfl 21 (by decide) wmX5_price_m_price_3 (fun _ h9 => h9) rfl dX5_price_72 ?_
                      refine lv_iload hx hb dX5_price_75 (lv_at hl 4 rfl) ?_
                      refine r_iald (v := m.2.2.2.2.1.2.2.2.2.2.2.2.1 n) hx hb hK hw 14 rfl n rfl (by omega) (by decide) rfl dX5_price_77 ?_
                      refine lv_aload_n hx hb dX5_price_78 rfl (lv_at hl 0 rfl) ?_
                      refine r_get (ci := 5) (v := .ref (a 14)) (C := RX5) (T := TX5) (N := 29) hx hb hts wiX5_price_m_price_X5 hown hK hw 0 rfl rfl 21 (by decide) wmX5_price_m_price_3 (fun _ h9 => h9) rfl dX5_price_79 ?_
                      refine lv_iload_n hx hb dX5_price_82 rfl (lv_at hl 2 rfl) ?_
                      refine r_iald (v := m.2.2.2.2.1.2.2.2.2.2.2.2.1 k) hx hb hK hw 14 rfl k rfl (by omega) (by decide) rfl dX5_price_83 ?_
                      refine lv_icmp_eq (tgt := 91) hx hb dX5_price_84 (by decide) (fun c_84 => ?_) (fun c_84 => ?_)
                      · refine lv_iconst (v := 0) hx hb dX5_price_91 (by decide) ?_
                        exact join_92 0 (by simp only [mdFuK, if_neg c_58, if_pos c_68, if_pos c_84]) _ _ _ hw (lv_sub hl [0, 1, 2, 3, 4] rfl)
                      · refine lv_iconst (v := 1) hx hb dX5_price_87 (by decide) ?_
                        refine lv_goto (tgt := 92) hx hb dX5_price_88 (by decide) ?_
                        exact join_92 1 (by simp only [mdFuK, if_neg c_58, if_pos c_68, if_neg c_84]) _ _ _ hw (lv_sub hl [0, 1, 2, 3, 4] rfl)
            exact loop_51 ((k - 0) + 1) 0 (Nat.lt_succ_self _) (by first | assumption | omega | rfl) _ _ _ hw (lv_sub hl [2, 3, 4, 1, 0] rfl)
          refine lv_aload_n hx hb dX5_price_33 rfl (lv_at hl 0 rfl) ?_
          refine r_get (ci := 5) (v := .ref (a 18)) (C := RX5) (T := TX5) (N := 29) hx hb hts wiX5_price_m_price_X5 hown hK hw 0 rfl rfl 25 (by decide) wmX5_price_m_price_1 (fun _ h9 => h9) rfl dX5_price_34 ?_
          refine lv_iload_n hx hb dX5_price_37 rfl (lv_at hl 2 rfl) ?_
          refine r_zald (v := ((mdBuild m.2.1 (mdSolve m.2.1 m.2.2.2.1) m.2.2.2.2.1 m.2.2.2.2.2.1).2.2) k) hx hb hK hw 18 rfl k rfl (by omega) (by decide) rfl dX5_price_38 ?_
          refine lv_if_ne (tgt := 46) hx hb dX5_price_39 (by decide) (fun c_39 => ?_) (fun c_39 => ?_)
          · refine lv_iconst (v := 0) hx hb dX5_price_46 (by decide) ?_
            exact join_47 0 (by simp only [mdFuK, if_neg c_39]) _ _ _ hw (lv_sub hl [0, 1, 2] rfl)
          · refine lv_iconst (v := 1) hx hb dX5_price_42 (by decide) ?_
            refine lv_goto (tgt := 47) hx hb dX5_price_43 (by decide) ?_
            exact join_47 1 (by simp only [mdFuK, if_pos c_39]) _ _ _ hw (lv_sub hl [0, 1, 2] rfl)
    exact loop_25 ((m.2.2.2.2.1.2.2.2.2.1 - 0) + 1) 0 (Nat.lt_succ_self _) (by first | assumption | omega | rfl) _ _ _ hw (lv_sub hl [2, 1, 0] rfl)
  · refine lv_iconst (v := 0) hx hb dX5_price_19 (by decide) ?_
    exact m_iret hx hb hr hlocks hK hw (Nat.le_of_ble_eq_true rfl) (Nat.le_of_ble_eq_true rfl) dX5_price_20 (show (0 : Int32) = (mdPrice m).1 by unfold mdPrice; rw [if_neg (show ¬ (mdBuilt m 0).2.2.2.2.2.1.2.2 8 = 0 from c_16)]) (show wMd G a (0, m.2.1, m.2.2.1, (mdSolve m.2.1 m.2.2.2.1), m.2.2.2.2.1, (mdBuild m.2.1 (mdSolve m.2.1 m.2.2.2.1) m.2.2.2.2.1 m.2.2.2.2.2.1), m.2.2.2.2.2.2) = wMd G a ((mdPrice m).2) by unfold mdPrice; rw [if_neg (show ¬ (mdBuilt m 0).2.2.2.2.2.1.2.2 8 = 0 from c_16)]; first | done | rfl)
