/-! pinning and places, on both sides -/
theorem mdFirst_sp (g : Nat → Int32) (t : Nat) : ∀ f n, n + f = t → n ≤ mdFirst g t f n ∧ mdFirst g t f n ≤ t ∧ g (mdFirst g t f n) = g t ∧ ∀ l, n ≤ l → l < mdFirst g t f n → ¬ g l = g t
  | 0, n, h => by
    have e : n = t := by omega
    subst e
    exact ⟨Nat.le_refl _, Nat.le_refl _, rfl, fun l h1 h2 => absurd h2 (by show ¬ l < n; omega)⟩
  | f + 1, n, h => by
    rw [mdFirst]
    by_cases e : g n = g t
    · rw [if_pos e]
      exact ⟨Nat.le_refl _, by omega, e, fun l h1 h2 => absurd h2 (by omega)⟩
    · rw [if_neg e]
      obtain ⟨q1, q2, q3, q4⟩ := mdFirst_sp g t f (n + 1) (by omega)
      refine ⟨by omega, q2, q3, fun l h1 h2 => ?_⟩
      by_cases hl : l = n
      · subst hl; exact e
      · exact q4 l (by omega) h2
/-- the lowest node of an axis that hangs together with n -/
def axF (x : tAx) (n : Nat) : Nat := mdFirst x.2.2.1 n n 0
theorem axF_le (x : tAx) (n : Nat) : axF x n ≤ n := (mdFirst_sp x.2.2.1 n n 0 (by omega)).2.1
theorem axF_g (x : tAx) (n : Nat) : x.2.2.1 (axF x n) = x.2.2.1 n := (mdFirst_sp x.2.2.1 n n 0 (by omega)).2.2.1
theorem axF_lo (x : tAx) (n l : Nat) (h : l < axF x n) : ¬ x.2.2.1 l = x.2.2.1 n := (mdFirst_sp x.2.2.1 n n 0 (by omega)).2.2.2 l (Nat.zero_le _) h
theorem axF_eq {x : tAx} {n k : Nat} (h : x.2.2.1 n = x.2.2.1 k) : axF x n = axF x k := by
  rcases Nat.lt_trichotomy (axF x n) (axF x k) with q | q | q
  · exact absurd ((axF_g x n).trans h) (axF_lo x k _ q)
  · exact q
  · exact absurd ((axF_g x k).trans h.symm) (axF_lo x n _ q)
theorem axF_self {x : tAx} {k : Nat} : axF x k = k ↔ ∀ l, l < k → ¬ x.2.2.1 l = x.2.2.1 k := by
  constructor
  · intro h l hl
    exact axF_lo x k l (by omega)
  · intro h
    rcases Nat.lt_or_ge (axF x k) k with q | q
    · exact absurd (axF_g x k) (h _ q)
    · have := axF_le x k
      omega
theorem i_ac1 (a b h f : Int32) : a + (b + h - f) - b = h + a - f := by
  grind
def pnC (x : tAx) : Nat → Int32
  | 0 => 0
  | k + 1 => pnC x k + (if ¬ x.2.2.1 k = x.2.2.1 16 ∧ axF x k = k then 1 else 0)
theorem axPinK_v (x : tAx) : ∀ k, k ≤ 16 → (axPinK x k).1 = x.1 ∧ (axPinK x k).2.1 = pnC x k ∧ ∀ n, n < 17 → (axPinK x k).2.2.1 n = (if x.2.2.1 n = x.2.2.1 16 ∨ axF x n < k then x.2.2.1 16 else x.2.2.1 n) ∧ (axPinK x k).2.2.2 n = (if ¬ x.2.2.1 n = x.2.2.1 16 ∧ axF x n < k then x.2.2.2 n + (x.2.2.2 16 + x.1 (axF x n) - x.2.2.2 (axF x n)) else x.2.2.2 n)
  | 0, _ => ⟨rfl, rfl, fun n hn => by
      simp only [axPinK, Nat.not_lt_zero, or_false, and_false, if_false]
      refine ⟨?_, trivial⟩
      split
      · assumption
      · rfl⟩
  | k + 1, hk => by
    obtain ⟨e1, e2, e3⟩ := axPinK_v x k (by omega)
    obtain ⟨g16, p16⟩ := e3 16 (by omega)
    obtain ⟨gk, pk⟩ := e3 k (by omega)
    have g16' : (axPinK x k).2.2.1 16 = x.2.2.1 16 := by rw [g16]; simp
    have p16' : (axPinK x k).2.2.2 16 = x.2.2.2 16 := by rw [p16]; simp
    rw [axPinK]
    have hle := axF_le x k
    by_cases hA : x.2.2.1 k = x.2.2.1 16 ∨ axF x k < k
    · have hcond : (axPinK x k).2.2.1 k = (axPinK x k).2.2.1 16 := by rw [gk, if_pos hA, g16']
      rw [if_pos hcond]
      refine ⟨e1, ?_, fun n hn => ?_⟩
      · rw [pnC, if_neg (by rintro ⟨q1, q2⟩; rcases hA with h | h; exact q1 h; omega), e2]
        simp
      · obtain ⟨f1, f2⟩ := e3 n hn
        have hn1 : ¬ x.2.2.1 n = x.2.2.1 16 → (axF x n < k + 1 ↔ axF x n < k) := by
          intro h16
          refine ⟨fun h => ?_, fun h => by omega⟩
          rcases Nat.lt_or_ge (axF x n) k with q | q
          · exact q
          · have he : axF x n = k := by omega
            have hg : x.2.2.1 k = x.2.2.1 n := by have := axF_g x n; rw [he] at this; exact this
            rcases hA with h | h
            · exact absurd (hg.symm.trans h) h16
            · have := axF_eq hg; omega
        rw [f1, f2]
        by_cases h16 : x.2.2.1 n = x.2.2.1 16
        · simp [h16]
        · simp only [h16, false_or, not_false_eq_true, true_and, hn1 h16]
          first | done | trivial
    · have hg16 : ¬ x.2.2.1 k = x.2.2.1 16 := fun h => hA (Or.inl h)
      have hFk : axF x k = k := by
        have : ¬ axF x k < k := fun h => hA (Or.inr h)
        omega
      have gk' : (axPinK x k).2.2.1 k = x.2.2.1 k := by rw [gk, if_neg hA]
      have pk' : (axPinK x k).2.2.2 k = x.2.2.2 k := by rw [pk, if_neg (by omega)]
      have hcond : ¬ (axPinK x k).2.2.1 k = (axPinK x k).2.2.1 16 := by rw [gk', g16']; exact hg16
      rw [if_neg hcond]
      obtain ⟨j1, j2, j3⟩ := axJoin_v ((axPinK x k).1, (axPinK x k).2.1 + 1, (axPinK x k).2.2.1, (axPinK x k).2.2.2) 16 k ((axPinK x k).1 k)
      refine ⟨j1.trans e1, j2.trans ?_, fun n hn => ?_⟩
      · show (axPinK x k).2.1 + 1 = _
        rw [pnC, if_pos ⟨hg16, hFk⟩, e2]
      · obtain ⟨q1, q2⟩ := j3 n hn
        obtain ⟨f1, f2⟩ := e3 n hn
        rw [q1, q2]
        show (if (axPinK x k).2.2.1 n = (axPinK x k).2.2.1 k then (axPinK x k).2.2.1 16 else (axPinK x k).2.2.1 n) = _ ∧ (if (axPinK x k).2.2.1 n = (axPinK x k).2.2.1 k then (axPinK x k).2.2.2 n + ((axPinK x k).2.2.2 16 + (axPinK x k).1 k - (axPinK x k).2.2.2 k) else (axPinK x k).2.2.2 n) = _
        rw [gk', g16', pk', p16', e1, f1, f2]
        by_cases hnk : x.2.2.1 n = x.2.2.1 k
        · have hF : axF x n = k := (axF_eq hnk).trans hFk
          have hn16 : ¬ x.2.2.1 n = x.2.2.1 16 := fun h => hg16 (hnk.symm.trans h)
          rw [hF]
          simp [hn16, hnk, hg16]
        · have hF : ¬ axF x n = k := fun h => hnk (by have := axF_g x n; rw [h] at this; exact this.symm)
          have hlt : axF x n < k + 1 ↔ axF x n < k := by omega
          simp only [hlt]
          have hno : ¬ (if x.2.2.1 n = x.2.2.1 16 ∨ axF x n < k then x.2.2.1 16 else x.2.2.1 n) = x.2.2.1 k := by
            split
            · exact fun h => hg16 h.symm
            · exact hnk
          simp only [hno, if_false]
          trivial
theorem mdFirst_r {r : Nat} {x : tAx} {V : tMV} (h : rwR r x V) {t : Nat} (ht : t < 17) : ∀ f n, n + f = t → mdFirst V.2.1 (17 * r + t) f (17 * r + n) = 17 * r + mdFirst x.2.2.1 t f n
  | 0, n, _ => rfl
  | f + 1, n, hn => by
    rw [mdFirst, mdFirst, (h n (by omega)).1, (h t ht).1]
    simp only [i_adc]
    split
    · rfl
    · exact mdFirst_r h ht f (n + 1) (by omega)
/-- a place, on both sides -/
theorem place_r {r : Nat} {x : tAx} {V : tMV} {s : tMS} (h : rwR r x V) (hr : r = 0 ∨ r = 1) (hh : x.1 = if r = 0 then s.2.1 else s.2.2.1) {np p : Nat} (hp : p < np) (hnp : np ≤ 16) : axPl (axPinK x np) p = mdPl s V r p := by
  obtain ⟨-, -, e⟩ := axPinK_v x np hnp
  unfold axPl mdPl
  rw [(e p (by omega)).2, (e 16 (by omega)).2, (h p (by omega)).1, (h 16 (by omega)).1, (h p (by omega)).2, (h 16 (by omega)).2]
  have hF : mdFirst V.2.1 (17 * r + p) p (17 * r) = 17 * r + axF x p := mdFirst_r h (by omega) p 0 (by omega)
  have hFl := axF_le x p
  rw [hF, (h (axF x p) (by omega)).2]
  simp only [i_adc]
  by_cases hg : x.2.2.1 p = x.2.2.1 16
  · simp [hg]
  · have hlt : axF x p < np := by omega
    simp only [hg, hlt, not_true_eq_false, not_false_eq_true, false_and, true_and, if_true, if_false]
    have hhint : (if r = 0 then s.2.1 (17 * r + axF x p) else s.2.2.1 (17 * r + axF x p - 17)) = x.1 (axF x p) := by
      rcases hr with rfl | rfl
      · rw [hh]; simp
      · rw [hh]
        simp only [show ¬ (1 : Nat) = 0 by decide, if_false]
        rw [show 17 * 1 + axF x p - 17 = axF x p by omega]
    rw [hhint]
    exact i_ac1 _ _ _ _
theorem mdFrK_v {r : Nat} {x : tAx} {V : tMV} (h : rwR r x V) {np k : Nat} (hk : k < 17) (hnp : np ≤ 16) : ∀ j, j ≤ k → ((mdFrK V.2.1 np (17 * r + k) j = 0 ∨ mdFrK V.2.1 np (17 * r + k) j = 1) ∧ (mdFrK V.2.1 np (17 * r + k) j = 1 ↔ k < np ∧ ¬ x.2.2.1 k = x.2.2.1 16 ∧ ∀ l, l < j → ¬ x.2.2.1 l = x.2.2.1 k))
  | 0, _ => by
    rw [mdFrK]
    unfold mdFr0
    rw [show (17 * r + k) % 17 = k by omega, show (17 * r + k) / 17 = r by omega, (h k hk).1, (h 16 (by omega)).1]
    simp only [i_adc]
    by_cases h1 : nI np ≤ nI k
    · have : ¬ k < np := by rw [nI_leI (by omega) (by omega)] at h1; omega
      rw [if_pos h1]
      exact ⟨Or.inl rfl, ⟨fun h => absurd h (by decide), fun h => absurd h.1 this⟩⟩
    · have h2 : k < np := by rw [nI_leI (by omega) (by omega)] at h1; omega
      rw [if_neg h1]
      by_cases h3 : x.2.2.1 k = x.2.2.1 16
      · rw [if_pos h3]
        exact ⟨Or.inl rfl, ⟨fun h => absurd h (by decide), fun h => absurd h3 h.2.1⟩⟩
      · rw [if_neg h3]
        exact ⟨Or.inr rfl, ⟨fun _ => ⟨h2, h3, fun l hl => absurd hl (Nat.not_lt_zero _)⟩, fun _ => rfl⟩⟩
  | j + 1, hj => by
    obtain ⟨q1, q2⟩ := mdFrK_v h hk hnp j (by omega)
    rw [mdFrK]
    by_cases h0 : mdFrK V.2.1 np (17 * r + k) j = 0
    · rw [if_pos h0]
      refine ⟨Or.inl rfl, ⟨fun h => absurd h (by decide), fun ⟨a1, a2, a3⟩ => ?_⟩⟩
      have := q2.mpr ⟨a1, a2, fun l hl => a3 l (by omega)⟩
      rw [h0] at this
      exact absurd this (by decide)
    · have h1 : mdFrK V.2.1 np (17 * r + k) j = 1 := by rcases q1 with q | q; exact absurd q h0; exact q
      obtain ⟨a1, a2, a3⟩ := q2.mp h1
      rw [if_neg h0, show (17 * r + k) / 17 = r by omega, (h j (by omega)).1, (h k hk).1]
      simp only [i_adc]
      by_cases h3 : x.2.2.1 j = x.2.2.1 k
      · rw [if_pos h3]
        exact ⟨Or.inl rfl, ⟨fun h => absurd h (by decide), fun ⟨_, _, a⟩ => absurd h3 (a j (by omega))⟩⟩
      · rw [if_neg h3]
        refine ⟨Or.inr rfl, ⟨fun _ => ⟨a1, a2, fun l hl => ?_⟩, fun _ => rfl⟩⟩
        by_cases e : l = j
        · subst e; exact h3
        · exact a3 l (by omega)
theorem free_r {r : Nat} {x : tAx} {V : tMV} (h : rwR r x V) {np : Nat} (hnp : np ≤ 16) : ∀ k, k ≤ 17 → mdFree V.2.1 np (17 * r + k) = mdFree V.2.1 np (17 * r) + pnC x (min k np)
  | 0, _ => by simp [pnC]
  | k + 1, hk => by
    have ih := free_r h hnp k (by omega)
    obtain ⟨q1, q2⟩ := mdFrK_v h (show k < 17 by omega) hnp k (Nat.le_refl _)
    rw [show 17 * r + (k + 1) = (17 * r + k) + 1 by omega, mdFree, ih, show (17 * r + k) % 17 = k by omega]
    by_cases hlt : k < np
    · rw [show min (k + 1) np = k + 1 by omega, show min k np = k by omega, pnC]
      by_cases h1 : mdFrK V.2.1 np (17 * r + k) k = 1
      · obtain ⟨a1, a2, a3⟩ := q2.mp h1
        rw [h1, if_neg (by decide), if_pos ⟨a2, axF_self.mpr a3⟩, Int32.add_assoc]
      · have h0 : mdFrK V.2.1 np (17 * r + k) k = 0 := by rcases q1 with q | q; exact q; exact absurd q h1
        rw [if_pos h0, if_neg (fun ⟨a2, a3⟩ => h1 (q2.mpr ⟨hlt, a2, axF_self.mp a3⟩)), Int32.add_assoc]
    · rw [show min (k + 1) np = min k np by omega]
      have h0 : mdFrK V.2.1 np (17 * r + k) k = 0 := by
        rcases q1 with q | q
        · exact q
        · exact absurd (q2.mp q).1 hlt
      rw [if_pos h0]
      simp
theorem freedom_r {x y : tAx} {V : tMV} (hx : rwR 0 x V) (hy : rwR 1 y V) {np : Nat} (hnp : np ≤ 16) : mdFree V.2.1 np 34 = (axPinK x np).2.1 + (axPinK y np).2.1 := by
  have e1 := free_r hx hnp 17 (Nat.le_refl _)
  have e2 := free_r hy hnp 17 (Nat.le_refl _)
  rw [(axPinK_v x np hnp).2.1, (axPinK_v y np hnp).2.1]
  rw [show min 17 np = np by omega] at e1 e2
  rw [show 17 * 0 + 17 = 17 from rfl, show 17 * 0 = 0 from rfl] at e1
  rw [show 17 * 1 + 17 = 34 from rfl, show 17 * 1 = 17 from rfl] at e2
  rw [e2, e1, show mdFree V.2.1 np 0 = 0 from rfl]
  simp
