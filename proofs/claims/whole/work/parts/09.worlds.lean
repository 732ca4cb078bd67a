/-! the worlds: what the cells of each part of the sketch and of the check hold -/
/-- hint, freeGroups, group, place -/
abbrev tAx : Type := (Nat → Int32) × Int32 × (Nat → Int32) × (Nat → Int32)
abbrev aAx : Type := Nat × Nat × Nat × Nat
def wAx (G : gT) (a : aAx) (x : tAx) : va_W := [(a.1, .inr (0, [.ref a.2.1, .int x.2.1, .ref a.2.2.1, .ref a.2.2.2])), (a.2.1, .inl (gI G, 16, .inl x.1)), (a.2.2.1, .inl (gI G, 17, .inl x.2.2.1)), (a.2.2.2, .inl (gI G, 17, .inl x.2.2.2))]
/-- points, settled -/
abbrev tOb : Type := Nat × Int32
abbrev aOb : Type := Nat × Nat × Nat × Nat × Nat
def wOb (G : gT) (a : aOb) (o : tOb) : va_W := [(a.1, .inr (4, [.ref a.2.1, .ref a.2.2.1, .ref a.2.2.2.1, .ref a.2.2.2.2, .int (nI o.1), .int o.2]))]
/-- count, kind, one, other, size, state, told -/
abbrev tRw : Type := Nat × (Nat → Int32) × (Nat → Nat) × (Nat → Nat) × (Nat → Int32) × (Nat → Int32) × (Nat → Nat → Int32)
abbrev aRw : Type := Nat × Nat × Nat × Nat × Nat × Nat × Nat × (Nat → Nat)
def wRw (G : gT) (a : aRw) (r : tRw) : va_W := [(a.1, .inr (3, [.int (nI r.1), .ref a.2.1, .ref a.2.2.1, .ref a.2.2.2.1, .ref a.2.2.2.2.1, .ref a.2.2.2.2.2.1, .ref a.2.2.2.2.2.2.1])), (a.2.1, .inl (gI G, 40, .inl r.2.1)), (a.2.2.1, .inl (gI G, 40, .inl (fun j => nI (r.2.2.1 j)))), (a.2.2.2.1, .inl (gI G, 40, .inl (fun j => nI (r.2.2.2.1 j)))), (a.2.2.2.2.1, .inl (gI G, 40, .inl r.2.2.2.2.1)), (a.2.2.2.2.2.1, .inl (gI G, 40, .inl r.2.2.2.2.2.1)), (a.2.2.2.2.2.2.1, .inl (gM G, 4, .inr (.inr (.inr (.inr (fun i => some (a.2.2.2.2.2.2.2 i)))))))] ++ (List.range 4).map (fun i => (a.2.2.2.2.2.2.2 i, .inl (gI G, 40, .inl (r.2.2.2.2.2.2 i))))
/-! things of a row of cells, by a place that is no number -/
theorem at_skip {P W : va_W} {n j k : Nat} (h : P.length = n) (hk : k = n + j) : (P ++ W)[k]? = W[j]? := by
  subst h
  subst hk
  rw [List.getElem?_append_right (by omega), Nat.add_sub_cancel_left]
theorem set_skip {P W : va_W} {n j k : Nat} {x : Nat × va_E} (h : P.length = n) (hk : k = n + j) : (P ++ W).set k x = P ++ W.set j x := by
  subst h
  subst hk
  rw [List.set_append_right _ _ (by omega), Nat.add_sub_cancel_left]
theorem fam_at {n v : Nat} (g : Nat → Nat × va_E) (hv : v < n) : ((List.range n).map g)[v]? = some (g v) := by
  rw [List.getElem?_map, List.getElem?_range hv]; rfl
theorem fam_atV {n v : Nat} (g : Nat → Nat × va_E) {V : va_W} (hv : v < n) : ((List.range n).map g ++ V)[v]? = some (g v) := by
  rw [List.getElem?_append_left (by simpa using hv)]; exact fam_at g hv
theorem fam_set {n v : Nat} (g g' : Nat → Nat × va_E) (x : Nat × va_E) (hv : v < n) (hx : g' v = x) (ho : ∀ i, i < n → i ≠ v → g' i = g i) : ((List.range n).map g).set v x = (List.range n).map g' := by
  apply List.ext_getElem?
  intro i
  by_cases h : i = v
  · subst h
    rw [List.getElem?_set_self (by simpa using hv), fam_at g' hv, hx]
  · rw [List.getElem?_set_ne (Ne.symm h)]
    by_cases hi : i < n
    · rw [fam_at g hi, fam_at g' hi, ho i hi h]
    · rw [List.getElem?_eq_none (by simpa using hi), List.getElem?_eq_none (by simpa using hi)]
theorem fam_setV {n v : Nat} (g g' : Nat → Nat × va_E) {V : va_W} (x : Nat × va_E) (hv : v < n) (hx : g' v = x) (ho : ∀ i, i < n → i ≠ v → g' i = g i) : ((List.range n).map g ++ V).set v x = (List.range n).map g' ++ V := by
  rw [List.set_append_left _ _ (by simpa using hv), fam_set g g' x hv hx ho]
/-- one of a row of rows changed -/
def updF (T : Nat → Nat → Int32) (v : Nat) (f : Nat → Int32) : Nat → Nat → Int32 := fun i => if i = v then f else T i
theorem updF_s (T : Nat → Nat → Int32) (v : Nat) (f : Nat → Int32) : updF T v f v = f := if_pos rfl
theorem updF_n {T : Nat → Nat → Int32} {v i : Nat} {f : Nat → Int32} (h : i ≠ v) : updF T v f i = T i := if_neg h
theorem rw_at {G : gT} {a : aRw} {r : tRw} {v : Nat} (hv : v < 4) : (wRw G a r)[7 + v]? = some (a.2.2.2.2.2.2.2 v, .inl (gI G, 40, .inl (r.2.2.2.2.2.2 v))) := (at_skip (n := 7) rfl rfl).trans (fam_at _ hv)
theorem rw_atV {G : gT} {a : aRw} {r : tRw} {V : va_W} {v : Nat} (hv : v < 4) : (wRw G a r ++ V)[7 + v]? = some (a.2.2.2.2.2.2.2 v, .inl (gI G, 40, .inl (r.2.2.2.2.2.2 v))) := by
  rw [List.getElem?_append_left (by show 7 + v < 11; omega)]; exact rw_at hv
theorem rw_set {G : gT} {a : aRw} {r : tRw} {v : Nat} {f : Nat → Int32} (hv : v < 4) : (wRw G a r).set (7 + v) (a.2.2.2.2.2.2.2 v, .inl (gI G, 40, .inl f)) = wRw G a (r.1, r.2.1, r.2.2.1, r.2.2.2.1, r.2.2.2.2.1, r.2.2.2.2.2.1, updF r.2.2.2.2.2.2 v f) :=
  (set_skip (n := 7) rfl rfl).trans (congrArg (fun z => _ ++ z) (fam_set _ (fun i => (a.2.2.2.2.2.2.2 i, .inl (gI G, 40, .inl (updF r.2.2.2.2.2.2 v f i)))) _ hv (by rw [updF_s]) (fun i _ h => by rw [updF_n h])))
theorem rw_setV {G : gT} {a : aRw} {r : tRw} {V : va_W} {v : Nat} {f : Nat → Int32} (hv : v < 4) : (wRw G a r ++ V).set (7 + v) (a.2.2.2.2.2.2.2 v, .inl (gI G, 40, .inl f)) = wRw G a (r.1, r.2.1, r.2.2.1, r.2.2.2.1, r.2.2.2.2.1, r.2.2.2.2.2.1, updF r.2.2.2.2.2.2 v f) ++ V := by
  rw [List.set_append_left _ _ (by show 7 + v < 11; omega), rw_set hv]
theorem cpy_nI (o g : Nat → Nat) (sp dp n : Nat) : va_cpy (fun j => nI (o j)) (fun j => nI (g j)) sp dp n = fun j => nI (va_cpy o g sp dp n j) := by
  funext j
  by_cases h : dp ≤ j ∧ j < dp + n <;> simp [va_cpy, h]
/-! PartSketch$Body: hasBase, pockets, xSides, ySides, and of each block: one, other, depth, outer, left, right, low, high, bottom, failing -/
abbrev tBk : Type := Nat × Nat × Int32 × Option Nat × Int32 × Int32 × Int32 × Int32 × Int32 × Int32
abbrev tBd : Type := Int32 × Nat × (Nat → Int32) × (Nat → Int32) × (Nat → tBk)
abbrev aBd : Type := Nat × Nat × Nat × Nat × (Nat → Nat)
def cBk (ad : Nat → Nat) (b : tBk) : va_E := .inr (1, [.int (nI b.1), .int (nI b.2.1), .int b.2.2.1, va_rf (b.2.2.2.1.map ad), .int b.2.2.2.2.1, .int b.2.2.2.2.2.1, .int b.2.2.2.2.2.2.1, .int b.2.2.2.2.2.2.2.1, .int b.2.2.2.2.2.2.2.2.1, .int b.2.2.2.2.2.2.2.2.2])
def wBd (G : gT) (a : aBd) (b : tBd) : va_W := [(a.1, .inr (2, [.int b.1, .int (nI b.2.1), .ref a.2.1, .ref a.2.2.1, .ref a.2.2.2.1])), (a.2.1, .inl (gB G, 9, .inr (.inr (.inr (.inr (fun i => some (a.2.2.2.2 i))))))), (a.2.2.1, .inl (gI G, 16, .inl b.2.2.1)), (a.2.2.2.1, .inl (gI G, 16, .inl b.2.2.2.1))] ++ (List.range 9).map (fun i => (a.2.2.2.2 i, cBk a.2.2.2.2 (b.2.2.2.2 i)))
def updB (T : Nat → tBk) (v : Nat) (f : tBk) : Nat → tBk := fun i => if i = v then f else T i
theorem updB_s (T : Nat → tBk) (v : Nat) (f : tBk) : updB T v f v = f := if_pos rfl
theorem updB_n {T : Nat → tBk} {v i : Nat} {f : tBk} (h : i ≠ v) : updB T v f i = T i := if_neg h
theorem updB_u (T : Nat → tBk) (v : Nat) (f g : tBk) : updB (updB T v f) v g = updB T v g := by
  funext i
  by_cases h : i = v <;> simp [updB, h]
theorem bd_at {G : gT} {a : aBd} {b : tBd} {v : Nat} (hv : v < 9) : (wBd G a b)[4 + v]? = some (a.2.2.2.2 v, cBk a.2.2.2.2 (b.2.2.2.2 v)) := (at_skip (n := 4) rfl rfl).trans (fam_at _ hv)
theorem bd_atV {G : gT} {a : aBd} {b : tBd} {V : va_W} {v : Nat} (hv : v < 9) : (wBd G a b ++ V)[4 + v]? = some (a.2.2.2.2 v, cBk a.2.2.2.2 (b.2.2.2.2 v)) := by
  rw [List.getElem?_append_left (by show 4 + v < 13; omega)]; exact bd_at hv
theorem bd_set {G : gT} {a : aBd} {b : tBd} {v : Nat} {f : tBk} (hv : v < 9) : (wBd G a b).set (4 + v) (a.2.2.2.2 v, cBk a.2.2.2.2 f) = wBd G a (b.1, b.2.1, b.2.2.1, b.2.2.2.1, updB b.2.2.2.2 v f) :=
  (set_skip (n := 4) rfl rfl).trans (congrArg (fun z => _ ++ z) (fam_set _ (fun i => (a.2.2.2.2 i, cBk a.2.2.2.2 (updB b.2.2.2.2 v f i))) _ hv (by rw [updB_s]) (fun i _ h => by rw [updB_n h])))
theorem bd_setV {G : gT} {a : aBd} {b : tBd} {V : va_W} {v : Nat} {f : tBk} (hv : v < 9) : (wBd G a b ++ V).set (4 + v) (a.2.2.2.2 v, cBk a.2.2.2.2 f) = wBd G a (b.1, b.2.1, b.2.2.1, b.2.2.2.1, updB b.2.2.2.2 v f) ++ V := by
  rw [List.set_append_left _ _ (by show 4 + v < 13; omega), bd_set hv]
theorem bd_atu {G : gT} {a : aBd} {h : Int32} {n : Nat} {xs ys : Nat → Int32} {T : Nat → tBk} {f : tBk} {v : Nat} (hv : v < 9) : (wBd G a (h, n, xs, ys, updB T v f))[4 + v]? = some (a.2.2.2.2 v, cBk a.2.2.2.2 f) := (bd_at hv).trans (by show some (_, cBk _ (updB _ _ _ _)) = _; rw [updB_s])
theorem bd_atuV {G : gT} {a : aBd} {h : Int32} {n : Nat} {xs ys : Nat → Int32} {T : Nat → tBk} {f : tBk} {V : va_W} {v : Nat} (hv : v < 9) : (wBd G a (h, n, xs, ys, updB T v f) ++ V)[4 + v]? = some (a.2.2.2.2 v, cBk a.2.2.2.2 f) := (bd_atV hv).trans (by show some (_, cBk _ (updB _ _ _ _)) = _; rw [updB_s])
theorem bd_atn {G : gT} {a : aBd} {h : Int32} {n : Nat} {xs ys : Nat → Int32} {T : Nat → tBk} {f : tBk} {v w : Nat} (hv : v < 9) (hn : v ≠ w) : (wBd G a (h, n, xs, ys, updB T w f))[4 + v]? = some (a.2.2.2.2 v, cBk a.2.2.2.2 (T v)) := (bd_at hv).trans (by show some (_, cBk _ (updB _ _ _ _)) = _; rw [updB_n hn])
theorem bd_atnV {G : gT} {a : aBd} {h : Int32} {n : Nat} {xs ys : Nat → Int32} {T : Nat → tBk} {f : tBk} {V : va_W} {v w : Nat} (hv : v < 9) (hn : v ≠ w) : (wBd G a (h, n, xs, ys, updB T w f) ++ V)[4 + v]? = some (a.2.2.2.2 v, cBk a.2.2.2.2 (T v)) := (bd_atV hv).trans (by show some (_, cBk _ (updB _ _ _ _)) = _; rw [updB_n hn])
theorem bd_setu {G : gT} {a : aBd} {h : Int32} {n : Nat} {xs ys : Nat → Int32} {T : Nat → tBk} {f f' : tBk} {v : Nat} (hv : v < 9) : (wBd G a (h, n, xs, ys, updB T v f)).set (4 + v) (a.2.2.2.2 v, cBk a.2.2.2.2 f') = wBd G a (h, n, xs, ys, updB T v f') := (bd_set hv).trans (by rw [updB_u])
theorem bd_setuV {G : gT} {a : aBd} {h : Int32} {n : Nat} {xs ys : Nat → Int32} {T : Nat → tBk} {f f' : tBk} {V : va_W} {v : Nat} (hv : v < 9) : (wBd G a (h, n, xs, ys, updB T v f) ++ V).set (4 + v) (a.2.2.2.2 v, cBk a.2.2.2.2 f') = wBd G a (h, n, xs, ys, updB T v f') ++ V := (bd_setV hv).trans (by rw [updB_u])
theorem zb_nar {v : Int32} (h : v = 0 ∨ v = 1) : narrow .boolean (.int v) = .int v := by rcases h with rfl | rfl <;> rfl
theorem zb_fit {v : Int32} (h : v = 0 ∨ v = 1) : fits .boolean (.int v) = true := by rcases h with rfl | rfl <;> rfl
theorem zb_vp {v : Int32} (h : v = 0 ∨ v = 1) : vp_nar .boolean v = v := by rcases h with rfl | rfl <;> rfl
theorem nm1 (k : Nat) : nI k - 1 + 1 = nI (k + 1) - 1 := by rw [nI_succ]; simp
theorem nm_p (k : Nat) : (1 : Int32) + (nI k - 1) = nI k := by rw [Int32.add_comm, Int32.sub_add_cancel]
theorem nm_ge {k n : Nat} (hk : k < 1000) (hn : n < 1000) : nI n ≤ nI k - 1 ↔ n + 1 ≤ k := by
  rcases k with _ | k
  · have h : (nI 0 - 1 : Int32) = -1 := by decide
    rw [h, Int32.le_iff_toInt_le, nI_toInt (by omega)]
    have : (-1 : Int32).toInt = -1 := by decide
    omega
  · rw [show nI (k + 1) - 1 = nI k from nI_pred k, nI_leI (by omega) (by omega)]
    omega
/-- the number of an int, read without sign -/
def iN (x : Int32) : Nat := x.toBitVec.toNat
theorem nI_iN (x : Int32) : x = nI (iN x) := by
  apply Int32.toBitVec_inj.mp
  show _ = BitVec.ofNat 32 x.toBitVec.toNat
  simp
theorem iN_nI {n : Nat} (h : n < 2 ^ 32) : iN (nI n) = n := by
  show (BitVec.ofNat 32 n).toNat = n
  rw [BitVec.toNat_ofNat, Nat.mod_eq_of_lt h]
theorem nI_mulr (a : Nat) (x : Int32) : nI a * x = nI (a * iN x) := by
  rw [← pk_mul, ← nI_iN]
theorem nI_addr (a : Nat) (x : Int32) : nI a + x = nI (a + iN x) := by
  rw [← nI_add, ← nI_iN]
/-! the check: its cells in one world; points, hints and wishes; the table; what is solved; the body; what is built; the cuts -/
abbrev tMS : Type := Nat × (Nat → Int32) × (Nat → Int32) × Nat × (Nat → Nat) × (Nat → Nat) × (Nat → Nat) × (Nat → Int32)
abbrev tMT : Type := (Nat → Int32) × (Nat → Int32)
abbrev tMV : Type := (Nat → Int32) × (Nat → Int32) × (Nat → Int32)
abbrev tMB : Type := Int32 × Nat × Nat × Int32 × Nat × (Nat → Nat) × (Nat → Nat) × (Nat → Int32) × (Nat → Int32)
abbrev tMQ : Type := (Nat → Int32) × (Nat → Int32) × (Nat → Int32)
abbrev tMC : Type := (Nat → Int32) × (Nat → Int32) × (Nat → Int32)
abbrev tMd : Type := Int32 × tMS × tMT × tMV × tMB × tMQ × tMC
abbrev aMd : Type := Nat → Nat
def wMd (G : gT) (a : aMd) (m : tMd) : va_W := [(a 0, .inr (5, [.int m.1, .int (nI m.2.1.1), .ref (a 1), .ref (a 2), .int (nI m.2.1.2.2.2.1), .ref (a 3), .ref (a 4), .ref (a 5), .ref (a 6), .ref (a 7), .ref (a 8), .ref (a 9), .ref (a 10), .ref (a 11), .int m.2.2.2.2.1.1, .int (nI m.2.2.2.2.1.2.1), .int (nI m.2.2.2.2.1.2.2.1), .int m.2.2.2.2.1.2.2.2.1, .int (nI m.2.2.2.2.1.2.2.2.2.1), .ref (a 12), .ref (a 13), .ref (a 14), .ref (a 15), .ref (a 16), .ref (a 17), .ref (a 18), .ref (a 19), .ref (a 20), .ref (a 21)])), (a 1, .inl (gI G, 16, .inl m.2.1.2.1)), (a 2, .inl (gI G, 16, .inl m.2.1.2.2.1)), (a 3, .inl (gI G, 40, .inl (fun j => nI (m.2.1.2.2.2.2.1 j)))), (a 4, .inl (gI G, 40, .inl (fun j => nI (m.2.1.2.2.2.2.2.1 j)))), (a 5, .inl (gI G, 40, .inl (fun j => nI (m.2.1.2.2.2.2.2.2.1 j)))), (a 6, .inl (gI G, 40, .inl m.2.1.2.2.2.2.2.2.2)), (a 7, .inl (gI G, 40, .inl m.2.2.2.1.1)), (a 8, .inl (gI G, 160, .inl m.2.2.1.1)), (a 9, .inl (gZ G, 160, .inl m.2.2.1.2)), (a 10, .inl (gI G, 34, .inl m.2.2.2.1.2.1)), (a 11, .inl (gI G, 34, .inl m.2.2.2.1.2.2)), (a 12, .inl (gI G, 8, .inl (fun j => nI (m.2.2.2.2.1.2.2.2.2.2.1 j)))), (a 13, .inl (gI G, 8, .inl (fun j => nI (m.2.2.2.2.1.2.2.2.2.2.2.1 j)))), (a 14, .inl (gI G, 8, .inl m.2.2.2.2.1.2.2.2.2.2.2.2.1)), (a 15, .inl (gI G, 8, .inl m.2.2.2.2.1.2.2.2.2.2.2.2.2)), (a 16, .inl (gI G, 36, .inl m.2.2.2.2.2.1.1)), (a 17, .inl (gI G, 8, .inl m.2.2.2.2.2.1.2.1)), (a 18, .inl (gZ G, 9, .inl m.2.2.2.2.2.1.2.2)), (a 19, .inl (gI G, 18, .inl m.2.2.2.2.2.2.1)), (a 20, .inl (gI G, 18, .inl m.2.2.2.2.2.2.2.1)), (a 21, .inl (gI G, 18, .inl m.2.2.2.2.2.2.2.2))]
