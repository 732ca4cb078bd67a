/-! the row of nodes of the check against an axis: judging, joining, solving -/
def rwR (r : Nat) (x : tAx) (V : tMV) : Prop := ∀ i, i < 17 → V.2.1 (17 * r + i) = x.2.2.1 i + nI (17 * r) ∧ V.2.2 (17 * r + i) = x.2.2.2 i
theorem i_adc {a b c : Int32} : a + c = b + c ↔ a = b := ⟨fun h => by have := congrArg (· - c) h; simpa using this, fun h => by rw [h]⟩
theorem pj_judge {r : Nat} {x : tAx} {V : tMV} (h : rwR r x V) {i k : Nat} (hi : i < 17) (hk : k < 17) (d : Int32) : mdHolds V r i k d = axJudge x i k d := by
  unfold mdHolds axJudge
  rw [(h i hi).1, (h k hk).1, (h i hi).2, (h k hk).2]
  simp only [i_adc]
theorem axJoinK_v (x : tAx) (kept joined sh : Int32) : ∀ k, (axJoinK x kept joined sh k).1 = x.1 ∧ (axJoinK x kept joined sh k).2.1 = x.2.1 ∧ ∀ n, (axJoinK x kept joined sh k).2.2.1 n = (if n < k ∧ x.2.2.1 n = joined then kept else x.2.2.1 n) ∧ (axJoinK x kept joined sh k).2.2.2 n = (if n < k ∧ x.2.2.1 n = joined then x.2.2.2 n + sh else x.2.2.2 n)
  | 0 => ⟨rfl, rfl, fun n => ⟨by simp [axJoinK], by simp [axJoinK]⟩⟩
  | k + 1 => by
    obtain ⟨e1, e2, e3⟩ := axJoinK_v x kept joined sh k
    have ek : (axJoinK x kept joined sh k).2.2.1 k = x.2.2.1 k := by rw [(e3 k).1]; simp
    have ep : (axJoinK x kept joined sh k).2.2.2 k = x.2.2.2 k := by rw [(e3 k).2]; simp
    rw [axJoinK]
    rw [ek, ep]
    by_cases hj : x.2.2.1 k = joined
    · rw [if_pos hj]
      refine ⟨e1, e2, fun n => ?_⟩
      show upd _ k kept n = _ ∧ upd _ k _ n = _
      by_cases hn : n = k
      · subst hn
        simp [upd, hj]
      · rw [pk_un hn, pk_un hn, (e3 n).1, (e3 n).2]
        have : (n < k + 1) ↔ (n < k) := by omega
        simp only [this]
        trivial
    · rw [if_neg hj]
      refine ⟨e1, e2, fun n => ?_⟩
      rw [(e3 n).1, (e3 n).2]
      by_cases hn : n = k
      · subst hn
        simp [hj]
      · have : (n < k + 1) ↔ (n < k) := by omega
        simp only [this]
        trivial
theorem axJoin_v (x : tAx) (i k : Nat) (d : Int32) : (axJoin x i k d).1 = x.1 ∧ (axJoin x i k d).2.1 = x.2.1 ∧ ∀ n, n < 17 → (axJoin x i k d).2.2.1 n = (if x.2.2.1 n = x.2.2.1 k then x.2.2.1 i else x.2.2.1 n) ∧ (axJoin x i k d).2.2.2 n = (if x.2.2.1 n = x.2.2.1 k then x.2.2.2 n + (x.2.2.2 i + d - x.2.2.2 k) else x.2.2.2 n) := by
  obtain ⟨e1, e2, e3⟩ := axJoinK_v x (x.2.2.1 i) (x.2.2.1 k) (x.2.2.2 i + d - x.2.2.2 k) 17
  unfold axJoin
  refine ⟨e1, e2, fun n hn => ?_⟩
  obtain ⟨f1, f2⟩ := e3 n
  simp only [hn, true_and] at f1 f2
  exact ⟨f1, f2⟩
theorem mdTiesK_v {V : tMV} {r i j : Nat} {d : Int32} (hne : ¬ V.2.1 (17 * r + j) = V.2.1 (17 * r + i)) : ∀ k, (mdTiesK V r i j d k).1 = V.1 ∧ ∀ n, (mdTiesK V r i j d k).2.1 n = (if (17 * r ≤ n ∧ n < 17 * r + k) ∧ V.2.1 n = V.2.1 (17 * r + j) then V.2.1 (17 * r + i) else V.2.1 n) ∧ (mdTiesK V r i j d k).2.2 n = (if (17 * r ≤ n ∧ n < 17 * r + k) ∧ V.2.1 n = V.2.1 (17 * r + j) then V.2.2 n + (V.2.2 (17 * r + i) + d - V.2.2 (17 * r + j)) else V.2.2 n)
  | 0 => ⟨rfl, fun n => by
      have : ¬ (17 * r ≤ n ∧ n < 17 * r + 0) := by omega
      simp only [this, false_and, if_false]
      exact ⟨rfl, rfl⟩⟩
  | k + 1 => by
    obtain ⟨e1, e3⟩ := mdTiesK_v (d := d) hne k
    have ek : (mdTiesK V r i j d k).2.1 (17 * r + k) = V.2.1 (17 * r + k) := by rw [(e3 _).1]; simp
    have ep : (mdTiesK V r i j d k).2.2 (17 * r + k) = V.2.2 (17 * r + k) := by rw [(e3 _).2]; simp
    rw [mdTiesK]
    rw [ek, ep, mdTiesK_i hne k]
    by_cases hj : V.2.1 (17 * r + k) = V.2.1 (17 * r + j)
    · rw [if_pos hj]
      refine ⟨e1, fun n => ?_⟩
      show upd _ (17 * r + k) _ n = _ ∧ upd _ (17 * r + k) _ n = _
      by_cases hn : n = 17 * r + k
      · subst hn
        have : (17 * r ≤ 17 * r + k ∧ 17 * r + k < 17 * r + (k + 1)) := by omega
        simp [upd, hj, this]
      · rw [pk_un hn, pk_un hn, (e3 n).1, (e3 n).2]
        have : (17 * r ≤ n ∧ n < 17 * r + (k + 1)) ↔ (17 * r ≤ n ∧ n < 17 * r + k) := by omega
        simp only [this]
        trivial
    · rw [if_neg hj]
      refine ⟨e1, fun n => ?_⟩
      rw [(e3 n).1, (e3 n).2]
      by_cases hn : n = 17 * r + k
      · subst hn
        simp [hj]
      · have : (17 * r ≤ n ∧ n < 17 * r + (k + 1)) ↔ (17 * r ≤ n ∧ n < 17 * r + k) := by omega
        simp only [this]
        trivial
theorem mdTies_1 (V : tMV) (r i j : Nat) (d : Int32) : (mdTies V r i j d).1 = V.1 := by
  unfold mdTies
  split
  · rfl
  · rename_i h; exact (mdTiesK_v h 17).1
theorem mdTies_same {V : tMV} {r : Nat} {x : tAx} (h : rwR r x V) {i j : Nat} (hi : i < 17) (hj : j < 17) (d : Int32) (he : x.2.2.1 j = x.2.2.1 i) : mdTies V r i j d = V := by
  unfold mdTies
  rw [if_pos (by rw [(h i hi).1, (h j hj).1, he])]
theorem mdTies_r {V : tMV} {r : Nat} {x : tAx} (h : rwR r x V) {i j : Nat} (hi : i < 17) (hj : j < 17) (d : Int32) (he : ¬ x.2.2.1 j = x.2.2.1 i) : rwR r (axJoin x i j d) (mdTies V r i j d) := by
  have hne : ¬ V.2.1 (17 * r + j) = V.2.1 (17 * r + i) := by rw [(h i hi).1, (h j hj).1, i_adc]; exact he
  obtain ⟨-, -, e⟩ := axJoin_v x i j d
  obtain ⟨-, f⟩ := mdTiesK_v (d := d) hne 17
  intro n hn
  unfold mdTies
  rw [if_neg hne, (e n hn).1, (e n hn).2, (f _).1, (f _).2]
  have hc : (17 * r ≤ 17 * r + n ∧ 17 * r + n < 17 * r + 17) := by omega
  simp only [hc, true_and, and_self]
  rw [(h n hn).1, (h n hn).2, (h i hi).1, (h i hi).2, (h j hj).1, (h j hj).2]
  simp only [i_adc]
  by_cases hq : x.2.2.1 n = x.2.2.1 j
  · simp only [hq, if_true, and_self]
  · simp only [hq, if_false, and_self]
theorem mdTies_o {V : tMV} {r q : Nat} {y : tAx} (h : rwR q y V) (i j : Nat) (d : Int32) (hq : q ≠ r) : rwR q y (mdTies V r i j d) := by
  intro n hn
  unfold mdTies
  split
  · exact h n hn
  · rename_i hne
    obtain ⟨-, f⟩ := mdTiesK_v (d := d) hne 17
    have hc : ¬ (17 * r ≤ 17 * q + n ∧ 17 * q + n < 17 * r + 17) := by omega
    rw [(f _).1, (f _).2]
    simp only [hc, false_and, if_false]
    exact h n hn
theorem axJudge_0 {x : tAx} {i k : Nat} {d : Int32} : axJudge x i k d = 0 ↔ ¬ x.2.2.1 k = x.2.2.1 i := by
  unfold axJudge
  by_cases h : x.2.2.1 i = x.2.2.1 k
  · rw [if_pos h]
    split
    · exact ⟨fun h => absurd h (by decide), fun h2 => absurd h.symm h2⟩
    · exact ⟨fun h => absurd h (by decide), fun h2 => absurd h.symm h2⟩
  · rw [if_neg h]; exact ⟨fun _ e => h e.symm, fun _ => rfl⟩
theorem axJudge_c (x : tAx) (i k : Nat) (d : Int32) : axJudge x i k d = 0 ∨ axJudge x i k d = 1 ∨ axJudge x i k d = 2 := by
  unfold axJudge
  split
  · split
    · exact Or.inr (Or.inl rfl)
    · exact Or.inr (Or.inr rfl)
  · exact Or.inl rfl
theorem axLooseK_v (x : tAx) : ∀ k, (axLooseK x k).1 = x.1 ∧ (axLooseK x k).2.1 = x.2.1 ∧ ∀ n, n < k → (axLooseK x k).2.2.1 n = nI n ∧ (axLooseK x k).2.2.2 n = 0
  | 0 => ⟨rfl, rfl, fun n h => absurd h (Nat.not_lt_zero _)⟩
  | k + 1 => by
    obtain ⟨e1, e2, e3⟩ := axLooseK_v x k
    refine ⟨e1, e2, fun n hn => ?_⟩
    show upd _ k _ n = _ ∧ upd _ k _ n = _
    by_cases h : n = k
    · subst h; exact ⟨pk_us, pk_us⟩
    · rw [pk_un h, pk_un h]; exact e3 n (by omega)
theorem mdLooseK_v (V : tMV) : ∀ k, (mdLooseK V k).1 = V.1 ∧ ∀ n, n < k → (mdLooseK V k).2.1 n = nI n ∧ (mdLooseK V k).2.2 n = 0
  | 0 => ⟨rfl, fun n h => absurd h (Nat.not_lt_zero _)⟩
  | k + 1 => by
    obtain ⟨e1, e3⟩ := mdLooseK_v V k
    refine ⟨e1, fun n hn => ?_⟩
    show upd _ k _ n = _ ∧ upd _ k _ n = _
    by_cases h : n = k
    · subst h; exact ⟨pk_us, pk_us⟩
    · rw [pk_un h, pk_un h]; exact e3 n (by omega)
theorem loose_r (x : tAx) (V : tMV) {r : Nat} (hr : r < 2) : rwR r (axLooseK x 17) (mdLooseK V 34) := fun i hi => by
  rw [((axLooseK_v x 17).2.2 i hi).1, ((axLooseK_v x 17).2.2 i hi).2, ((mdLooseK_v V 34).2 _ (by omega)).1, ((mdLooseK_v V 34).2 _ (by omega)).2]
  exact ⟨by rw [nI_add, Nat.add_comm], rfl⟩
/-- one wish, on both sides -/
def wsR (rs : tRw) (s : tMS) : Prop := ∀ k, k < s.2.2.2.1 → s.2.2.2.2.1 k ≤ 2 ∧ rs.2.1 k = nI (s.2.2.2.2.1 k) ∧ rs.2.2.1 k = s.2.2.2.2.2.1 k ∧ s.2.2.2.2.2.1 k < 16 ∧ (s.2.2.2.2.1 k < 2 → rs.2.2.2.1 k = s.2.2.2.2.2.2.1 k ∧ rs.2.2.2.2.1 k = s.2.2.2.2.2.2.2 k ∧ s.2.2.2.2.2.2.1 k < 16)
theorem mdSet_r {r : Nat} {x : tAx} {V : tMV} (w : Nat) (v : Int32) (h : rwR r x V) : rwR r x (mdSet V w v) := h
theorem apart_r {V : tMV} {r : Nat} {x : tAx} (h : rwR r x V) {i j : Nat} (hi : i < 17) (hj : j < 17) (d : Int32) (w : Nat) (v : Int32) (hv : v = axJudge x i j d) : rwR r (axApart x i j d) (if v = 0 then mdTies (mdSet V w v) r i j d else mdSet V w v) := by
  unfold axApart
  rw [← hv]
  by_cases h0 : v = 0
  · rw [if_pos h0, if_pos h0]
    exact mdTies_r (mdSet_r w v h) hi hj d (axJudge_0.mp (hv ▸ h0))
  · rw [if_neg h0, if_neg h0]
    exact mdSet_r w v h
theorem skX_hint {V : tMV} {x y : tAx} {i : Nat} (hx : rwR 0 x V) (hy : rwR 1 y V) (hi : i < 16) (w : Nat) (v : Int32) (hv : v = skHr x y i) : (if v = 0 then mdTies (mdTies (mdSet V w v) 0 16 i (x.1 i)) 1 16 i (y.1 i) else mdSet V w v).1 = upd V.1 w v ∧ rwR 0 (skHx x y i) (if v = 0 then mdTies (mdTies (mdSet V w v) 0 16 i (x.1 i)) 1 16 i (y.1 i) else mdSet V w v) ∧ rwR 1 (skHy x y i) (if v = 0 then mdTies (mdTies (mdSet V w v) 0 16 i (x.1 i)) 1 16 i (y.1 i) else mdSet V w v) := by
  have a0 : axAtG x i = axJudge x 16 i (x.1 i) := rfl
  have b0 : axAtG y i = axJudge y 16 i (y.1 i) := rfl
  unfold skHr at hv
  unfold skHx skHy
  by_cases h2 : axAtG x i = 2
  · rw [if_pos h2] at hv ⊢
    rw [if_pos h2]
    subst hv
    exact ⟨rfl, hx, hy⟩
  · rw [if_neg h2] at hv ⊢
    rw [if_neg h2]
    by_cases h3 : axAtG y i = 2
    · rw [if_pos h3] at hv ⊢
      rw [if_pos h3]
      subst hv
      exact ⟨rfl, hx, hy⟩
    · rw [if_neg h3] at hv ⊢
      rw [if_neg h3]
      have hx' : rwR 0 x (mdSet V w v) := hx
      have hy' : rwR 1 y (mdSet V w v) := hy
      have ca : axAtG x i = 0 ∨ axAtG x i = 1 := by rcases axJudge_c x 16 i (x.1 i) with q | q | q; exact Or.inl q; exact Or.inr q; exact absurd q h2
      have cb : axAtG y i = 0 ∨ axAtG y i = 1 := by rcases axJudge_c y 16 i (y.1 i) with q | q | q; exact Or.inl q; exact Or.inr q; exact absurd q h3
      rcases ca with ca | ca
      · have hv0 : v = 0 := by rw [hv, ca]; rfl
        rw [if_pos hv0, if_pos ca]
        have t1 := mdTies_r hx' (i := 16) (by omega) (show i < 17 by omega) (x.1 i) (axJudge_0.mp (a0.symm.trans ca))
        have t1y := mdTies_o (r := 0) hy' 16 i (x.1 i) (by decide)
        rcases cb with cb | cb
        · rw [if_pos cb]
          exact ⟨by rw [mdTies_1, mdTies_1]; rfl, mdTies_o (r := 1) t1 16 i (y.1 i) (by decide), mdTies_r t1y (i := 16) (by omega) (show i < 17 by omega) (y.1 i) (axJudge_0.mp (b0.symm.trans cb))⟩
        · rw [if_neg (by rw [cb]; decide)]
          have he : y.2.2.1 i = y.2.2.1 16 := Decidable.byContradiction fun q => by
            have := (axJudge_0 (x := y) (i := 16) (k := i) (d := y.1 i)).mpr q
            rw [← b0, cb] at this
            exact absurd this (by decide)
          rw [mdTies_same t1y (i := 16) (by omega) (show i < 17 by omega) _ he]
          exact ⟨by rw [mdTies_1]; rfl, t1, t1y⟩
      · rw [if_neg (show ¬ axAtG x i = 0 by rw [ca]; decide)]
        have he : x.2.2.1 i = x.2.2.1 16 := Decidable.byContradiction fun q => by
          have := (axJudge_0 (x := x) (i := 16) (k := i) (d := x.1 i)).mpr q
          rw [← a0, ca] at this
          exact absurd this (by decide)
        rcases cb with cb | cb
        · have hv0 : v = 0 := by rw [hv, ca, cb]; rfl
          rw [if_pos hv0, if_pos cb, mdTies_same hx' (i := 16) (by omega) (show i < 17 by omega) _ he]
          exact ⟨by rw [mdTies_1]; rfl, mdTies_o (r := 1) hx' 16 i (y.1 i) (by decide), mdTies_r hy' (i := 16) (by omega) (show i < 17 by omega) (y.1 i) (axJudge_0.mp (b0.symm.trans cb))⟩
        · have hv1 : v = 1 := by rw [hv, ca, cb]; rfl
          rw [if_neg (show ¬ v = 0 by rw [hv1]; decide), if_neg (show ¬ axAtG y i = 0 by rw [cb]; decide)]
          exact ⟨rfl, hx, hy⟩
theorem axApart_h (x : tAx) (i j : Nat) (d : Int32) : (axApart x i j d).1 = x.1 := by
  unfold axApart
  split
  · exact (axJoin_v x i j d).1
  · rfl
theorem skHx_h (x y : tAx) (i : Nat) : (skHx x y i).1 = x.1 := by
  unfold skHx
  split
  · rfl
  · split
    · rfl
    · split
      · exact (axJoin_v x 16 i _).1
      · rfl
theorem skHy_h (x y : tAx) (i : Nat) : (skHy x y i).1 = y.1 := by
  unfold skHy
  split
  · rfl
  · split
    · rfl
    · split
      · exact (axJoin_v y 16 i _).1
      · rfl
theorem skK_h (rs : tRw) (tx ty : tAx) : ∀ k, (skK rs tx ty k).2.1.1 = tx.1 ∧ (skK rs tx ty k).2.2.1 = ty.1
  | 0 => ⟨(axLooseK_v tx 17).1, (axLooseK_v ty 17).1⟩
  | k + 1 => by
    obtain ⟨e1, e2⟩ := skK_h rs tx ty k
    show (skAx rs _ _ k).1 = _ ∧ (skAy rs _ _ k).1 = _
    unfold skAx skAy
    split
    · exact ⟨(axApart_h _ _ _ _).trans e1, e2⟩
    · split
      · exact ⟨e1, (axApart_h _ _ _ _).trans e2⟩
      · exact ⟨(skHx_h _ _ _).trans e1, (skHy_h _ _ _).trans e2⟩
/-- all wishes, on both sides -/
theorem solve_r {rs : tRw} {s : tMS} {tx ty : tAx} (V : tMV) (hw : wsR rs s) (h1 : tx.1 = s.2.1) (h2 : ty.1 = s.2.2.1) : ∀ k, k ≤ s.2.2.2.1 → (∀ w, w < k → (skK rs tx ty k).1 w = (mdSolveK s V k).1 w) ∧ rwR 0 (skK rs tx ty k).2.1 (mdSolveK s V k) ∧ rwR 1 (skK rs tx ty k).2.2 (mdSolveK s V k)
  | 0, _ => ⟨fun w h => absurd h (Nat.not_lt_zero _), loose_r tx V (by decide), loose_r ty V (by decide)⟩
  | k + 1, hk => by
    obtain ⟨e1, e2, e3⟩ := solve_r V hw h1 h2 k (by omega)
    obtain ⟨g1, g2⟩ := skK_h rs tx ty k
    obtain ⟨w1, w2, w3, w4, w5⟩ := hw k (by omega)
    have key : (mdStep s (mdSolveK s V k) k).1 = upd (mdSolveK s V k).1 k (skAr rs (skK rs tx ty k).2.1 (skK rs tx ty k).2.2 k) ∧ rwR 0 (skAx rs (skK rs tx ty k).2.1 (skK rs tx ty k).2.2 k) (mdStep s (mdSolveK s V k) k) ∧ rwR 1 (skAy rs (skK rs tx ty k).2.1 (skK rs tx ty k).2.2 k) (mdStep s (mdSolveK s V k) k) := by
      generalize mdSolveK s V k = W at *
      rcases hp : skK rs tx ty k with ⟨st, x, y⟩
      rw [hp] at e1 e2 e3 g1 g2
      simp only at e1 e2 e3 g1 g2 ⊢
      unfold mdStep skAx skAy skAr
      rw [w2, w3]
      by_cases hk2 : 2 ≤ s.2.2.2.2.1 k
      · have hke : s.2.2.2.2.1 k = 2 := by omega
        rw [if_pos (show (2 : Int32) ≤ nI (s.2.2.2.2.1 k) by rw [hke]; decide), hke]
        rw [if_neg (show ¬ nI 2 = 0 by decide), if_neg (show ¬ nI 2 = 1 by decide), if_neg (show ¬ nI 2 = 0 by decide), if_neg (show ¬ nI 2 = 1 by decide), if_neg (show ¬ nI 2 = 0 by decide), if_neg (show ¬ nI 2 = 1 by decide)]
        have hv : mdV2 s W k = skHr x y (s.2.2.2.2.2.1 k) := by
          unfold mdV2
          rw [pj_judge e2 (by omega) (by omega), pj_judge e3 (by omega) (by omega), ← h1, ← h2, ← g1, ← g2]
          rfl
        have := skX_hint e2 e3 w4 k (mdV2 s W k) hv
        rw [g1, g2, h1, h2] at this
        rw [← hv]
        exact this
      · have hlt : s.2.2.2.2.1 k < 2 := by omega
        obtain ⟨q1, q2, q3⟩ := w5 hlt
        rw [q1, q2]
        have hcase : s.2.2.2.2.1 k = 0 ∨ s.2.2.2.2.1 k = 1 := by omega
        rcases hcase with hke | hke
        · rw [if_neg (show ¬ (2 : Int32) ≤ nI (s.2.2.2.2.1 k) by rw [hke]; decide), hke]
          rw [if_pos (show nI 0 = 0 from rfl), if_pos (show nI 0 = 0 from rfl), if_pos (show nI 0 = 0 from rfl)]
          have hv : mdV1 s W k = axJudge x (s.2.2.2.2.2.1 k) (s.2.2.2.2.2.2.1 k) (s.2.2.2.2.2.2.2 k) := by
            unfold mdV1
            rw [hke]
            exact pj_judge e2 (by omega) (by omega) _
          have t := apart_r e2 (i := s.2.2.2.2.2.1 k) (j := s.2.2.2.2.2.2.1 k) (by omega) (by omega) (s.2.2.2.2.2.2.2 k) k (mdV1 s W k) hv
          refine ⟨?_, t, ?_⟩
          · rw [← hv]
            split
            · rw [mdTies_1]; rfl
            · rfl
          · split
            · exact mdTies_o (r := 0) (mdSet_r k _ e3) _ _ _ (by decide)
            · exact e3
        · rw [if_neg (show ¬ (2 : Int32) ≤ nI (s.2.2.2.2.1 k) by rw [hke]; decide), hke]
          rw [if_neg (show ¬ nI 1 = 0 by decide), if_neg (show ¬ nI 1 = 0 by decide), if_neg (show ¬ nI 1 = 0 by decide), if_pos (show nI 1 = 1 from rfl), if_pos (show nI 1 = 1 from rfl), if_pos (show nI 1 = 1 from rfl)]
          have hv : mdV1 s W k = axJudge y (s.2.2.2.2.2.1 k) (s.2.2.2.2.2.2.1 k) (s.2.2.2.2.2.2.2 k) := by
            unfold mdV1
            rw [hke]
            exact pj_judge e3 (by omega) (by omega) _
          have t := apart_r e3 (i := s.2.2.2.2.2.1 k) (j := s.2.2.2.2.2.2.1 k) (by omega) (by omega) (s.2.2.2.2.2.2.2 k) k (mdV1 s W k) hv
          refine ⟨?_, ?_, t⟩
          · rw [← hv]
            split
            · rw [mdTies_1]; rfl
            · rfl
          · split
            · exact mdTies_o (r := 1) (mdSet_r k _ e2) _ _ _ (by decide)
            · exact e2
    obtain ⟨k1, k2, k3⟩ := key
    refine ⟨fun w hwk => ?_, k2, k3⟩
    show upd _ k _ w = (mdStep s (mdSolveK s V k) k).1 w
    rw [k1]
    by_cases hw' : w = k
    · subst hw'; rw [pk_us, pk_us]
    · rw [pk_un hw', pk_un hw']; exact e1 w (by omega)
