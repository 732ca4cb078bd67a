/-! what pockets take out, on both sides -/
/-- what is known of the pockets that do not fail -/
def pkZ (B : tMB) (Q : tMQ) (n : Nat) : Prop := ∀ j, j < n → Q.2.2 j = 0 → ∃ g d : Nat, Q.2.1 j = nI g ∧ B.2.2.2.2.2.2.2.1 j = nI d ∧ 1 ≤ d ∧ g + d ≤ 50
def oN (B : tMB) (Q : tMQ) (u v : Int32) : Nat → Nat
  | 0 => 0
  | k + 1 => if Q.2.2 k = 0 then (if mdAcr Q.1 u v k = 0 then oN B Q u v k else oN B Q u v k ||| ((2 ^ iN (B.2.2.2.2.2.2.2.1 k) - 1) * 2 ^ iN (Q.2.1 k))) else oN B Q u v k
theorem layN {d g : Nat} (hd : d ≤ 50) (hg : g ≤ 50) {b : tBk} (h1 : b.2.2.1 = nI d) (h2 : b.2.2.2.2.2.2.2.2.1 = nI g + nI d) : bkLayers b = lN ((2 ^ d - 1) * 2 ^ g) := by
  unfold bkLayers
  rw [h2, h1, show nI g + nI d - nI d = nI g by grind, show (1 : Int64) = lN 1 from rfl, wb_shl 1 (by omega), lN_sub (by rw [Nat.one_mul]; exact Nat.two_pow_pos d), wb_shl _ (by omega), Nat.one_mul]
theorem ltK_n {T : Nat → tBk} {B : tMB} {Q : tMQ} {n : Nat} (hm : ∀ j, j < n → bkR (T (1 + j)) Q.1 j (Q.2.1 j + B.2.2.2.2.2.2.2.1 j) (Q.2.2 j)) (hd : ∀ j, j < n → (T (1 + j)).2.2.1 = B.2.2.2.2.2.2.2.1 j) (hz : pkZ B Q n) (u v : Int32) : ∀ k, k ≤ n → ltK T u v k = lN (oN B Q u v k)
  | 0, _ => rfl
  | k + 1, hk => by
    have ih := ltK_n hm hd hz u v k (by omega)
    obtain ⟨b1, b2, b3, b4, b5, b6⟩ := hm k (by omega)
    have hc : bkCovers (T (1 + k)) u v = mdAcr Q.1 u v k := by unfold bkCovers mdAcr; rw [b1, b2, b3, b4]
    rw [ltK, oN, b6, hc, ih]
    by_cases hf : Q.2.2 k = 0
    · obtain ⟨g, d, e1, e2, e3, e4⟩ := hz k (by omega) hf
      rw [if_pos hf, if_pos hf]
      by_cases ha : mdAcr Q.1 u v k = 0
      · rw [if_pos ha, if_pos ha]
      · rw [if_neg ha, if_neg ha, layN (d := d) (g := g) (by omega) (by omega) (by rw [hd k (by omega), e2]) (by rw [b5, e1, e2]), e1, e2, iN_nI (by omega), iN_nI (by omega), fb_orL]
    · rw [if_neg hf, if_neg hf]
theorem oN_bit {B : tMB} {Q : tMQ} {n : Nat} (hz : pkZ B Q n) (u v : Int32) (z : Nat) : ∀ k, k ≤ n → ((oN B Q u v k).testBit z = true ↔ ∃ j, j < k ∧ Q.2.2 j = 0 ∧ ¬ mdAcr Q.1 u v j = 0 ∧ iN (Q.2.1 j) ≤ z ∧ z < iN (Q.2.1 j) + iN (B.2.2.2.2.2.2.2.1 j))
  | 0, _ => by
    rw [oN, Nat.zero_testBit]
    exact ⟨fun h => absurd h (by decide), fun ⟨j, hj, _⟩ => absurd hj (Nat.not_lt_zero _)⟩
  | k + 1, hk => by
    have ih := oN_bit hz u v z k (by omega)
    have up : (∃ j, j < k + 1 ∧ Q.2.2 j = 0 ∧ ¬ mdAcr Q.1 u v j = 0 ∧ iN (Q.2.1 j) ≤ z ∧ z < iN (Q.2.1 j) + iN (B.2.2.2.2.2.2.2.1 j)) ↔ ((∃ j, j < k ∧ Q.2.2 j = 0 ∧ ¬ mdAcr Q.1 u v j = 0 ∧ iN (Q.2.1 j) ≤ z ∧ z < iN (Q.2.1 j) + iN (B.2.2.2.2.2.2.2.1 j)) ∨ (Q.2.2 k = 0 ∧ ¬ mdAcr Q.1 u v k = 0 ∧ iN (Q.2.1 k) ≤ z ∧ z < iN (Q.2.1 k) + iN (B.2.2.2.2.2.2.2.1 k))) := by
      constructor
      · rintro ⟨j, hj, h⟩
        by_cases e : j = k
        · subst e; exact Or.inr h
        · exact Or.inl ⟨j, by omega, h⟩
      · rintro (⟨j, hj, h⟩ | h)
        · exact ⟨j, by omega, h⟩
        · exact ⟨k, by omega, h⟩
    rw [up, ← ih, oN]
    by_cases hf : Q.2.2 k = 0
    · rw [if_pos hf]
      by_cases ha : mdAcr Q.1 u v k = 0
      · rw [if_pos ha]
        exact ⟨Or.inl, fun h => h.elim id (fun h => absurd ha h.2.1)⟩
      · rw [if_neg ha, Nat.testBit_or, Nat.testBit_mul_two_pow, Nat.testBit_two_pow_sub_one]
        simp only [Bool.or_eq_true, Bool.and_eq_true, decide_eq_true_eq, hf, ha, not_false_eq_true, true_and]
        exact ⟨fun h => h.imp id (fun h => by omega), fun h => h.imp id (fun h => by omega)⟩
    · rw [if_neg hf]
      exact ⟨Or.inl, fun h => h.elim id (fun h => absurd h.1 hf)⟩
theorem isK_bit {B : tMB} {Q : tMQ} {n : Nat} (hz : pkZ B Q n) (u v : Int32) {z : Nat} (hz5 : z ≤ 50) : ∀ k, k ≤ n → (¬ mdIsK B Q u v (nI z) k = 0 ↔ (oN B Q u v k).testBit z = true)
  | 0, _ => by
    rw [oN, mdIsK, Nat.zero_testBit]
    exact ⟨fun h => absurd rfl h, fun h => absurd h (by decide)⟩
  | k + 1, hk => by
    have ih := isK_bit hz u v hz5 k (by omega)
    rw [mdIsK, oN]
    by_cases h0 : mdIsK B Q u v (nI z) k = 0
    · rw [if_pos h0]
      have hb : (oN B Q u v k).testBit z = false := by
        cases e : (oN B Q u v k).testBit z with
        | false => rfl
        | true => exact absurd h0 (ih.mpr e)
      by_cases hf : Q.2.2 k = 0
      · obtain ⟨g, d, e1, e2, e3, e4⟩ := hz k (by omega) hf
        rw [if_pos hf, if_pos hf]
        by_cases ha : mdAcr Q.1 u v k = 0
        · rw [if_pos ha, if_pos ha, hb]
          exact ⟨fun h => absurd rfl h, fun h => absurd h (by decide)⟩
        · rw [if_neg ha, if_neg ha, Nat.testBit_or, Nat.testBit_mul_two_pow, Nat.testBit_two_pow_sub_one, hb, e1, e2, iN_nI (by omega), iN_nI (by omega), nI_add]
          simp only [Bool.false_or, Bool.and_eq_true, decide_eq_true_eq]
          have c1 : nI z < nI g ↔ z < g := by
            rw [fa_lt, nI_toInt (by omega), nI_toInt (by omega)]; omega
          have c2 : nI (g + d) ≤ nI z ↔ g + d ≤ z := nI_leI (by omega) (by omega)
          simp only [c1, c2]
          by_cases q1 : z < g
          · rw [if_pos q1]; exact ⟨fun h => absurd rfl h, fun h => absurd h.1 (by omega)⟩
          · rw [if_neg q1]
            by_cases q2 : g + d ≤ z
            · rw [if_pos q2]; exact ⟨fun h => absurd rfl h, fun h => absurd h.2 (by omega)⟩
            · rw [if_neg q2]; exact ⟨fun _ => ⟨by omega, by omega⟩, fun _ => by decide⟩
      · rw [if_neg hf, if_neg hf, hb]
        exact ⟨fun h => absurd rfl h, fun h => absurd h (by decide)⟩
    · rw [if_neg h0]
      have hb := ih.mp h0
      refine ⟨fun _ => ?_, fun _ => by decide⟩
      split
      · split
        · exact hb
        · rw [Nat.testBit_or, hb]; rfl
      · exact hb
/-! the heights at which pockets begin and end, in their order -/
def zR (B : tMB) (Q : tMQ) (n N : Nat) (zs : Nat → Int32) (Z : Nat → Nat) : Prop := (∀ c, c < N → zs c = nI (Z c) ∧ Z c ≤ 50) ∧ (∀ c e, c ≤ e → e < N → Z c ≤ Z e) ∧ ∀ j, j < n → Q.2.2 j = 0 → (∃ p, p < N ∧ Z p = iN (Q.2.1 j)) ∧ ∃ p, p < N ∧ Z p = iN (Q.2.1 j) + iN (B.2.2.2.2.2.2.2.1 j)
section OUT
variable {B : tMB} {Q : tMQ} {n N : Nat} {zs : Nat → Int32} {Z : Nat → Nat}
theorem out_const (hz : pkZ B Q n) (hZ : zR B Q n N zs Z) (u v : Int32) {c z : Nat} (hc : c + 1 < N) (h1 : Z c ≤ z) (h2 : z < Z (c + 1)) : (oN B Q u v n).testBit z = (oN B Q u v n).testBit (Z c) := by
  obtain ⟨hZ1, hZ2, hZ3⟩ := hZ
  have key : ∀ e, (∃ p, p < N ∧ Z p = e) → (e ≤ z ↔ e ≤ Z c) := by
    rintro e ⟨p, hp, rfl⟩
    rcases Nat.lt_or_ge c p with q | q
    · have := hZ2 (c + 1) p q hp
      omega
    · have := hZ2 p c q (by omega)
      omega
  rw [Bool.eq_iff_iff, oN_bit hz u v z n (Nat.le_refl _), oN_bit hz u v (Z c) n (Nat.le_refl _)]
  constructor
  · rintro ⟨j, hj, hf, ha, e1, e2⟩
    obtain ⟨k1, k2⟩ := hZ3 j hj hf
    have := key _ k1
    have := key _ k2
    exact ⟨j, hj, hf, ha, by omega, by omega⟩
  · rintro ⟨j, hj, hf, ha, e1, e2⟩
    obtain ⟨k1, k2⟩ := hZ3 j hj hf
    have := key _ k1
    have := key _ k2
    exact ⟨j, hj, hf, ha, by omega, by omega⟩
def oC (B : tMB) (Q : tMQ) (u v : Int32) (n m : Nat) : Nat := fb_ct (fun i => (oN B Q u v n).testBit i) m
theorem oC_step (hz : pkZ B Q n) (hZ : zR B Q n N zs Z) (u v : Int32) {c : Nat} (hc : c + 1 < N) : oC B Q u v n (Z (c + 1)) = oC B Q u v n (Z c) + if (oN B Q u v n).testBit (Z c) = true then Z (c + 1) - Z c else 0 := by
  have hle := hZ.2.1 c (c + 1) (by omega) hc
  unfold oC
  rw [show Z (c + 1) = Z c + (Z (c + 1) - Z c) by omega, fb_ct_split, show Z c + (Z (c + 1) - Z c) - Z c = Z (c + 1) - Z c by omega]
  congr 1
  have e : fb_ct (fun k => (oN B Q u v n).testBit (Z c + k)) (Z (c + 1) - Z c) = fb_ct (fun _ => (oN B Q u v n).testBit (Z c)) (Z (c + 1) - Z c) := fb_ct_cong fun k hk => out_const hz hZ u v hc (by omega) (by omega)
  rw [e]
  by_cases hb : (oN B Q u v n).testBit (Z c) = true
  · rw [if_pos hb, hb]
    exact fb_ct_all.mpr fun _ _ => rfl
  · rw [if_neg hb]
    exact fb_ct_zero.mpr fun _ _ => by simpa using hb
theorem oC_first (hz : pkZ B Q n) (hZ : zR B Q n N zs Z) (u v : Int32) (hN : 0 < N) : oC B Q u v n (Z 0) = 0 := by
  obtain ⟨hZ1, hZ2, hZ3⟩ := hZ
  refine fb_ct_zero.mpr fun k hk => ?_
  cases e : (oN B Q u v n).testBit k with
  | false => rfl
  | true =>
    obtain ⟨j, hj, hf, ha, e1, e2⟩ := (oN_bit hz u v k n (Nat.le_refl _)).mp e
    obtain ⟨⟨p, hp, hv⟩, -⟩ := hZ3 j hj hf
    have := hZ2 0 p (Nat.zero_le _) hp
    omega
theorem oC_last (hz : pkZ B Q n) (hZ : zR B Q n N zs Z) (u v : Int32) (hN : 0 < N) : oC B Q u v n (Z (N - 1)) = pop (oN B Q u v n) := by
  have hl := (hZ.1 (N - 1) (by omega)).2
  obtain ⟨hZ1, hZ2, hZ3⟩ := hZ
  unfold oC pop
  rw [show (64 : Nat) = Z (N - 1) + (64 - Z (N - 1)) by omega, fb_ct_split]
  have : fb_ct (fun k => (oN B Q u v n).testBit (Z (N - 1) + k)) (64 - Z (N - 1)) = 0 := fb_ct_zero.mpr fun k hk => by
    cases e : (oN B Q u v n).testBit (Z (N - 1) + k) with
    | false => rfl
    | true =>
      obtain ⟨j, hj, hf, ha, e1, e2⟩ := (oN_bit hz u v _ n (Nat.le_refl _)).mp e
      obtain ⟨-, ⟨p, hp, hv⟩⟩ := hZ3 j hj hf
      have := hZ2 p (N - 1) (by omega) (by omega)
      omega
  omega
theorem oN_lt (hz : pkZ B Q n) (u v : Int32) : oN B Q u v n < 2 ^ 64 := by
  refine Nat.lt_pow_two_of_testBit _ fun i hi => ?_
  cases e : (oN B Q u v n).testBit i with
  | false => rfl
  | true =>
    obtain ⟨j, hj, hf, ha, e1, e2⟩ := (oN_bit hz u v i n (Nat.le_refl _)).mp e
    obtain ⟨g, d, h1, h2, h3, h4⟩ := hz j hj hf
    rw [h1, h2, iN_nI (by omega), iN_nI (by omega)] at e2
    omega
/-- a column of cells, height by height -/
theorem col_r {C : tMC} (hz : pkZ B Q n) (hZ : zR B Q n N C.2.2 Z) (hn : n = B.2.2.2.2.1) {a b : Nat} (hx : bdd (C.1 (a + 1) - C.1 a) 3400) (hy : bdd (C.2.1 (b + 1) - C.2.1 b) 3400) (t : Int32) (hN : 0 < N) : ∀ c, c < N → mdO3 B Q C a b t c = if bdCol C.1 C.2.1 a b ≤ 0 then t else t + bdCol C.1 C.2.1 a b * nI (oC B Q (C.1 a) (C.2.1 b) n (Z c))
  | 0, _ => by
    rw [oC_first hz hZ _ _ hN]
    show t = _
    rw [show nI 0 = 0 from rfl, Int32.mul_zero, Int32.add_zero, ite_self]
  | c + 1, hc => by
    have ih := col_r hz hZ hn hx hy t hN c (by omega)
    obtain ⟨z1, z2⟩ := hZ.1 c (by omega)
    obtain ⟨z3, z4⟩ := hZ.1 (c + 1) hc
    have hle := hZ.2.1 c (c + 1) (by omega) hc
    have hcell : mdCell C a b c = bdCol C.1 C.2.1 a b * nI (Z (c + 1) - Z c) := by
      unfold mdCell bdCol
      rw [z1, z3, pk_sub hle]
    have hstep := oC_step hz hZ (C.1 a) (C.2.1 b) hc
    have hbit := isK_bit hz (C.1 a) (C.2.1 b) z2 n (Nat.le_refl _)
    rw [← z1] at hbit
    rw [mdO3, ih, hcell, hstep, ← hn]
    have hcb : -11560000 ≤ (bdCol C.1 C.2.1 a b).toInt ∧ (bdCol C.1 C.2.1 a b).toInt ≤ 11560000 := by
      obtain ⟨x1, x2⟩ := hx
      obtain ⟨y1, y2⟩ := hy
      have m1 : (C.1 (a + 1) - C.1 a).toInt * (C.2.1 (b + 1) - C.2.1 b).toInt ≤ 11560000 ∧ -11560000 ≤ (C.1 (a + 1) - C.1 a).toInt * (C.2.1 (b + 1) - C.2.1 b).toInt := by
        generalize (C.1 (a + 1) - C.1 a).toInt = p at *
        generalize (C.2.1 (b + 1) - C.2.1 b).toInt = q at *
        have f1 : 0 ≤ (3400 - p) * (3400 + q) := Int.mul_nonneg (by omega) (by omega)
        have f2 : 0 ≤ (3400 + p) * (3400 - q) := Int.mul_nonneg (by omega) (by omega)
        have f3 : 0 ≤ (3400 - p) * (3400 - q) := Int.mul_nonneg (by omega) (by omega)
        have f4 : 0 ≤ (3400 + p) * (3400 + q) := Int.mul_nonneg (by omega) (by omega)
        rw [Int.sub_mul, Int.mul_add, Int.mul_add] at f1
        rw [Int.add_mul, Int.mul_sub, Int.mul_sub] at f2
        rw [Int.sub_mul, Int.mul_sub, Int.mul_sub] at f3
        rw [Int.add_mul, Int.mul_add, Int.mul_add] at f4
        generalize p * q = w at *
        omega
      have := fb_mulI (x := C.1 (a + 1) - C.1 a) (y := C.2.1 (b + 1) - C.2.1 b) (by omega) (by omega)
      unfold bdCol
      omega
    generalize bdCol C.1 C.2.1 a b = col at *
    generalize hdz : Z (c + 1) - Z c = dz
    have hdz5 : dz ≤ 50 := by omega
    have hdi : (nI dz).toInt = (dz : Int) := nI_toInt (by omega)
    have hmul : (col * nI dz).toInt = col.toInt * (dz : Int) := by
      have b1 : col.toInt * (dz : Int) ≤ 578000000 ∧ -578000000 ≤ col.toInt * (dz : Int) := by
        have hd0 : (0 : Int) ≤ (dz : Int) := Int.natCast_nonneg dz
        have hd5 : (dz : Int) ≤ 50 := by omega
        generalize (dz : Int) = q at *
        generalize col.toInt = p at *
        have f1 : 0 ≤ (11560000 - p) * q := Int.mul_nonneg (by omega) (by omega)
        have f2 : 0 ≤ (11560000 + p) * q := Int.mul_nonneg (by omega) (by omega)
        rw [Int.sub_mul] at f1
        rw [Int.add_mul] at f2
        generalize p * q = w at *
        omega
      have := fb_mulI (x := col) (y := nI dz) (by rw [hdi]; omega) (by rw [hdi]; omega)
      rw [this, hdi]
    by_cases hcol : col ≤ 0
    · rw [if_pos hcol, if_pos hcol]
      have h0 : col * nI dz ≤ 0 := by
        rw [fa_le, hmul]
        rw [fa_le] at hcol
        exact Int.mul_nonpos_of_nonpos_of_nonneg hcol (Int.natCast_nonneg dz)
      rw [if_pos h0, Int32.add_zero]
    · rw [if_neg hcol, if_neg hcol]
      have hpos : 0 < col.toInt := by
        rw [fa_le] at hcol
        have : (0 : Int32).toInt = 0 := by decide
        omega
      by_cases hz0 : dz = 0
      · subst hz0
        rw [show nI 0 = 0 from rfl, Int32.mul_zero, if_pos (by decide), Int32.add_zero, ite_self, Nat.add_zero]
      · have hc0 : ¬ col * nI dz ≤ 0 := by
          rw [fa_le, hmul]
          have : (0 : Int32).toInt = 0 := by decide
          have : 0 < col.toInt * (dz : Int) := Int.mul_pos hpos (by omega)
          omega
        rw [if_neg hc0]
        by_cases hb : (oN B Q (C.1 a) (C.2.1 b) n).testBit (Z c) = true
        · rw [if_neg (hbit.mpr hb), if_pos hb, ← nI_add, Int32.mul_add, Int32.add_assoc]
        · rw [if_pos (Decidable.byContradiction fun h => hb (hbit.mp h)), if_neg hb, Nat.add_zero, Int32.add_zero]
end OUT
