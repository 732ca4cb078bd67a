/-! places are small: in one group of n nodes no two are more than 100 (n - 1) apart -/
def bdd (z : Int32) (c : Int) : Prop := z.toInt ≤ c ∧ -c ≤ z.toInt
theorem bdd_mono {z : Int32} {c d : Int} (h : bdd z c) (hcd : c ≤ d) : bdd z d := ⟨Int.le_trans h.1 hcd, Int.le_trans (Int.neg_le_neg hcd) h.2⟩
theorem bdd_add {a b : Int32} {c d : Int} (ha : bdd a c) (hb : bdd b d) (hcd : c + d < 2147483648) : bdd (a + b) (c + d) := by
  obtain ⟨a1, a2⟩ := ha
  obtain ⟨b1, b2⟩ := hb
  have e := fb_addI (x := a) (y := b) (by omega) (by omega)
  exact ⟨by rw [e]; omega, by rw [e]; omega⟩
theorem bdd_neg {a : Int32} {c : Int} (ha : bdd a c) (hc : c < 2147483648) : bdd (-a) c := by
  obtain ⟨a1, a2⟩ := ha
  have e := fb_negI (x := a) (by omega)
  exact ⟨by rw [e]; omega, by rw [e]; omega⟩
theorem bdd_sub {a b : Int32} {c d : Int} (ha : bdd a c) (hb : bdd b d) (hcd : c + d < 2147483648) (hd : d < 2147483648) : bdd (a - b) (c + d) := by
  rw [Int32.sub_eq_add_neg]
  exact bdd_add ha (bdd_neg hb hd) hcd
theorem bdd_comm {a b : Int32} {c : Int} (h : bdd (a - b) c) (hc : c < 2147483648) : bdd (b - a) c := by
  have := bdd_neg h hc
  rwa [show -(a - b) = b - a by grind] at this
/-- how many nodes a group has -/
def axS (x : tAx) (v : Int32) : Nat := fb_ct (fun n => decide (x.2.2.1 n = v)) 17
theorem axS_le (x : tAx) (v : Int32) : axS x v ≤ 17 := fb_ct_le _ _
theorem axS_pos {x : tAx} {n : Nat} (hn : n < 17) : 0 < axS x (x.2.2.1 n) := fb_ct_pos.mpr ⟨n, hn, by simp⟩
def axB (x : tAx) : Prop := ∀ a b, a < 17 → b < 17 → x.2.2.1 a = x.2.2.1 b → bdd (x.2.2.2 a - x.2.2.2 b) (100 * ((axS x (x.2.2.1 a) : Nat) : Int) - 100)
theorem axS_eq {x x' : tAx} {v : Int32} (h : ∀ n, n < 17 → (x'.2.2.1 n = v ↔ x.2.2.1 n = v)) : axS x' v = axS x v :=
  fb_ct_cong fun n hn => by simp only [h n hn]
theorem axB_loose (x : tAx) : axB (axLooseK x 17) := by
  intro a b ha hb h
  obtain ⟨-, -, e⟩ := axLooseK_v x 17
  rw [(e a ha).1, (e b hb).1] at h
  have hab : a = b := by
    have h2 : (nI a).toInt = (nI b).toInt := by rw [h]
    rw [nI_toInt (by omega), nI_toInt (by omega)] at h2
    omega
  subst hab
  have hp := axS_pos (x := axLooseK x 17) ha
  rw [show ∀ z : Int32, z - z = 0 from fun z => by grind]
  constructor
  · rw [show (0 : Int32).toInt = 0 by decide]; omega
  · rw [show (0 : Int32).toInt = 0 by decide]; omega
theorem axB_join {x : tAx} {i j : Nat} {d : Int32} (h : axB x) (hi : i < 17) (hj : j < 17) (hd : bdd d 100) (hne : ¬ x.2.2.1 j = x.2.2.1 i) : axB (axJoin x i j d) := by
  obtain ⟨-, -, e⟩ := axJoin_v x i j d
  generalize axJoin x i j d = x' at e ⊢
  have sgi : axS x' (x.2.2.1 i) = axS x (x.2.2.1 i) + axS x (x.2.2.1 j) := by
    have := fb_ct_or (p := fun n => decide (x.2.2.1 n = x.2.2.1 i)) (q := fun n => decide (x.2.2.1 n = x.2.2.1 j)) (n := 17) (fun k hk hh => by
      obtain ⟨h1, h2⟩ := hh
      exact hne ((of_decide_eq_true h2).symm.trans (of_decide_eq_true h1)))
    unfold axS
    rw [← this]
    refine fb_ct_cong fun n hn => ?_
    rw [(e n hn).1]
    by_cases hq : x.2.2.1 n = x.2.2.1 j
    · simp [hq]
    · simp [hq]
  have so : ∀ v, ¬ v = x.2.2.1 i → ¬ v = x.2.2.1 j → axS x' v = axS x v := fun v h1 h2 => axS_eq fun n hn => by
    rw [(e n hn).1]
    by_cases hq : x.2.2.1 n = x.2.2.1 j
    · rw [if_pos hq, hq]
      exact ⟨fun h => absurd h.symm h1, fun h => absurd h.symm h2⟩
    · rw [if_neg hq]
  have li := axS_le x (x.2.2.1 i)
  have lj := axS_le x (x.2.2.1 j)
  have pi := axS_pos (x := x) hi
  have pj := axS_pos (x := x) hj
  intro a b ha hb hab
  rw [(e a ha).1, (e b hb).1] at hab
  rw [(e a ha).1, (e a ha).2, (e b hb).2]
  by_cases qa : x.2.2.1 a = x.2.2.1 j
  · by_cases qb : x.2.2.1 b = x.2.2.1 j
    · rw [if_pos qa, if_pos qa, if_pos qb, sgi]
      have := h a b ha hb (qa.trans qb.symm)
      rw [qa] at this
      rw [show ∀ p q s : Int32, p + s - (q + s) = p - q from fun p q s => by grind]
      exact bdd_mono this (by omega)
    · rw [if_pos qa, if_neg qb] at hab
      rw [if_pos qa, if_pos qa, if_neg qb, sgi]
      have h1 := h a j ha hj qa
      have h2 := h i b hi hb hab
      rw [qa] at h1
      rw [show ∀ pa pi pj pb : Int32, pa + (pi + d - pj) - pb = (pa - pj) + (d + (pi - pb)) from fun pa pi pj pb => by grind]
      exact bdd_mono (bdd_add h1 (bdd_add hd h2 (by omega)) (by omega)) (by omega)
  · by_cases qb : x.2.2.1 b = x.2.2.1 j
    · rw [if_neg qa, if_pos qb] at hab
      rw [if_neg qa, if_neg qa, if_pos qb, hab, sgi]
      have h1 := h j b hj hb qb.symm
      have h2 := h a i ha hi hab
      rw [hab] at h2
      rw [show ∀ pa pi pj pb : Int32, pa - (pb + (pi + d - pj)) = (pa - pi) + (-d + (pj - pb)) from fun pa pi pj pb => by grind]
      exact bdd_mono (bdd_add h2 (bdd_add (bdd_neg hd (by omega)) h1 (by omega)) (by omega)) (by omega)
    · rw [if_neg qa, if_neg qb] at hab
      rw [if_neg qa, if_neg qa, if_neg qb]
      have h1 := h a b ha hb hab
      by_cases qi : x.2.2.1 a = x.2.2.1 i
      · rw [qi] at h1 ⊢
        rw [sgi]
        exact bdd_mono h1 (by omega)
      · rw [so _ qi qa]
        exact h1
theorem axB_apart {x : tAx} {i j : Nat} {d : Int32} (h : axB x) (hi : i < 17) (hj : j < 17) (hd : bdd d 100) : axB (axApart x i j d) := by
  unfold axApart
  split
  · rename_i h0; exact axB_join h hi hj hd (axJudge_0.mp h0)
  · exact h
def hB (x : tAx) : Prop := ∀ i, i < 16 → bdd (x.1 i) 100
theorem axB_hx {x y : tAx} {i : Nat} (h : axB x) (hi : i < 16) (hd : hB x) : axB (skHx x y i) := by
  unfold skHx
  split
  · exact h
  · split
    · exact h
    · split
      · rename_i h0; exact axB_join h (by omega) (by omega) (hd i hi) (axJudge_0.mp h0)
      · exact h
theorem axB_hy {x y : tAx} {i : Nat} (h : axB y) (hi : i < 16) (hd : hB y) : axB (skHy x y i) := by
  unfold skHy
  split
  · exact h
  · split
    · exact h
    · split
      · rename_i h0; exact axB_join h (by omega) (by omega) (hd i hi) (axJudge_0.mp h0)
      · exact h
/-- sizes are small -/
def szB (rs : tRw) : Prop := ∀ k, k < rs.1 → rs.2.2.1 k < 16 ∧ rs.2.2.2.1 k < 16 ∧ bdd (rs.2.2.2.2.1 k) 100
theorem skK_B {rs : tRw} {tx ty : tAx} (h : szB rs) (hx : hB tx) (hy : hB ty) : ∀ k, k ≤ rs.1 → axB (skK rs tx ty k).2.1 ∧ axB (skK rs tx ty k).2.2
  | 0, _ => ⟨axB_loose tx, axB_loose ty⟩
  | k + 1, hk => by
    obtain ⟨e1, e2⟩ := skK_B h hx hy k (by omega)
    obtain ⟨g1, g2⟩ := skK_h rs tx ty k
    obtain ⟨s1, s2, s3⟩ := h k (by omega)
    have hx' : hB (skK rs tx ty k).2.1 := fun i hi => by rw [g1]; exact hx i hi
    have hy' : hB (skK rs tx ty k).2.2 := fun i hi => by rw [g2]; exact hy i hi
    show axB (skAx rs _ _ k) ∧ axB (skAy rs _ _ k)
    unfold skAx skAy
    split
    · exact ⟨axB_apart e1 (by omega) (by omega) s3, e2⟩
    · split
      · exact ⟨e1, axB_apart e2 (by omega) (by omega) s3⟩
      · exact ⟨axB_hx e1 s1 hx', axB_hy e2 s1 hy'⟩
theorem pin_B {x : tAx} (h : axB x) (hh : hB x) {np p : Nat} (hp : p < np) (hnp : np ≤ 16) : bdd (axPl (axPinK x np) p) 1700 := by
  obtain ⟨-, -, e⟩ := axPinK_v x np hnp
  unfold axPl
  rw [(e p (by omega)).2, (e 16 (by omega)).2]
  have hFl := axF_le x p
  by_cases hg : x.2.2.1 p = x.2.2.1 16
  · simp only [hg, not_true_eq_false, false_and, if_false]
    have := h p 16 (by omega) (by omega) hg
    have hs := axS_le x (x.2.2.1 p)
    exact bdd_mono this (by omega)
  · have hlt : axF x p < np := by omega
    simp only [hg, hlt, not_true_eq_false, not_false_eq_true, false_and, true_and, if_true, if_false]
    rw [show ∀ a b h f : Int32, a + (b + h - f) - b = h + (a - f) from fun a b h f => by grind]
    have h1 := h p (axF x p) (by omega) (by omega) (axF_g x p).symm
    have hs := axS_le x (x.2.2.1 p)
    exact bdd_mono (bdd_add (hh (axF x p) (by omega)) h1 (by omega)) (by omega)
