/-! what each call asks first, on both sides -/
theorem in_reach (u : Int32) : exReach u = if mdIn u (-100) 100 = 0 then some "java/lang/IllegalArgumentException" else none := by
  unfold exReach mdIn
  by_cases h1 : u < -100
  · rw [if_pos h1, if_pos h1]; rfl
  · rw [if_neg h1, if_neg h1]
    by_cases h2 : u ≤ 100
    · rw [if_pos h2, if_neg (fun h => (fa_of_lt h).2.1 h2)]; rfl
    · rw [if_neg h2, if_pos (fa_of_nle h2)]; rfl
theorem in_depth (u : Int32) : exDepth u = if mdIn u 1 50 = 0 then some "java/lang/IllegalArgumentException" else none := by
  unfold exDepth mdIn
  by_cases h1 : u < 1
  · rw [if_pos h1, if_pos h1]; rfl
  · rw [if_neg h1, if_neg h1]
    by_cases h2 : u ≤ 50
    · rw [if_pos h2, if_neg (fun h => (fa_of_lt h).2.1 h2)]; rfl
    · rw [if_neg h2, if_pos (fa_of_nle h2)]; rfl
theorem in_var (u : Int32) : exVar u = if mdIn u 0 3 = 0 then some "java/lang/IllegalArgumentException" else none := by
  unfold exVar mdIn
  by_cases h1 : u < 0
  · rw [if_pos h1, if_pos h1]; rfl
  · rw [if_neg h1, if_neg h1]
    have e : 3 < u ↔ ¬ u < 4 := by
      rw [fa_lt, fa_lt]
      have a3 : (3 : Int32).toInt = 3 := by decide
      have a4 : (4 : Int32).toInt = 4 := by decide
      omega
    by_cases h2 : u < 4
    · rw [if_pos h2, if_neg (fun h => e.mp h h2)]; rfl
    · rw [if_neg h2, if_pos (e.mpr h2)]; rfl
theorem in_in {n : Nat} (hn : n ≤ 1000) (i : Int32) : exIn n i = if mdIn i 0 (nI n - 1) = 0 then some "java/lang/IndexOutOfBoundsException" else none := by
  unfold exIn mdIn
  by_cases h1 : i < 0
  · rw [if_pos h1, if_pos h1]; rfl
  · rw [if_neg h1, if_neg h1]
    have e : nI n - 1 < i ↔ ¬ i < nI n := by
      rcases n with _ | n
      · have a0 : (nI 0 - 1).toInt = -1 := by decide
        rw [fa_lt] at h1
        rw [fa_lt, fa_lt, a0, nI_toInt (by omega)]
        have : (0 : Int32).toInt = 0 := by decide
        omega
      · rw [nI_pred, fa_lt, fa_lt, nI_toInt (by omega), nI_toInt (by omega)]
        omega
    by_cases h2 : i < nI n
    · rw [if_pos h2, if_neg (fun h => e.mp h h2)]; rfl
    · rw [if_neg h2, if_pos (e.mpr h2)]; rfl
theorem nI_ltn {n k : Nat} (hn : n < 1000) (hk : k < 1000) : nI n < nI k ↔ n < k := by
  rw [fa_lt, nI_toInt (by omega), nI_toInt (by omega)]; omega
theorem nI_eqn {n k : Nat} (hn : n < 1000) (hk : k < 1000) : nI n = nI k ↔ n = k := by
  rw [fa_eq, nI_toInt (by omega), nI_toInt (by omega)]; omega
theorem in_full {n k : Nat} (hn : n ≤ k) (hk : k < 1000) (s : String) : (if nI n < nI k then none else some s) = if nI n = nI k then some s else none := by
  by_cases h : n = k
  · rw [if_neg (by rw [nI_ltn (by omega) hk]; omega), if_pos (by rw [h])]
  · rw [if_pos (by rw [nI_ltn (by omega) hk]; omega), if_neg (by rw [nI_eqn (by omega) hk]; exact h)]
theorem in_bdd {u : Int32} (h : ¬ mdIn u (-100) 100 = 0) : bdd u 100 := by
  unfold mdIn at h
  split at h
  · exact absurd rfl h
  · rename_i h1
    split at h
    · exact absurd rfl h
    · rename_i h2
      rw [fa_lt] at h1 h2
      have e1 : (-100 : Int32).toInt = -100 := by decide
      have e2 : (100 : Int32).toInt = 100 := by decide
      exact ⟨by omega, by omega⟩
theorem in_d50 {u : Int32} (h : ¬ mdIn u 1 50 = 0) : ¬ u < 1 ∧ u ≤ 50 := by
  unfold mdIn at h
  split at h
  · exact absurd rfl h
  · rename_i h1
    split at h
    · exact absurd rfl h
    · rename_i h2
      exact ⟨h1, fa_of_nlt h2⟩
/-! rows: appending, dropping -/
theorem rwApp_v (r : tRw) (kd : Int32) (i j : Nat) (d : Int32) : rwApp r kd i j d = (r.1 + 1, upd r.2.1 r.1 kd, updN r.2.2.1 r.1 i, updN r.2.2.2.1 r.1 j, upd r.2.2.2.2.1 r.1 d, r.2.2.2.2.2.1, (rwAppK r kd i j d 4).2.2.2.2.2.2) := rfl
theorem rwAppK_td (r : tRw) (kd : Int32) (i j : Nat) (d : Int32) : ∀ n v, v < n → (rwAppK r kd i j d n).2.2.2.2.2.2 v = upd (r.2.2.2.2.2.2 v) r.1 101
  | 0, v, h => absurd h (Nat.not_lt_zero _)
  | n + 1, v, h => by
    have out : ∀ n v, n ≤ v → (rwAppK r kd i j d n).2.2.2.2.2.2 v = r.2.2.2.2.2.2 v := by
      intro n
      induction n with
      | zero => intro v _; rfl
      | succ n ih =>
        intro v hv
        show updF _ n _ v = _
        rw [updF_n (by omega)]
        exact ih v (by omega)
    show updF _ n _ v = _
    by_cases e : v = n
    · subst e
      rw [updF_s, out v v (Nat.le_refl _)]
    · rw [updF_n e]
      exact rwAppK_td r kd i j d n v (by omega)
theorem mdTlK_v (tl : Nat → Int32) {n : Nat} (hn : n < 40) : ∀ m v k, k < 40 → (mdTlK tl n m (40 * v + k) = if v < m ∧ k = n then 0 else tl (40 * v + k))
  | 0, v, k, _ => by rw [if_neg (by omega)]; rfl
  | m + 1, v, k, hk => by
    show upd _ (40 * m + n) 0 (40 * v + k) = _
    by_cases e : 40 * v + k = 40 * m + n
    · rw [e, pk_us, if_pos (by omega)]
    · rw [pk_un e, mdTlK_v tl hn m v k hk]
      have : (v < m ∧ k = n) ↔ (v < m + 1 ∧ k = n) := by omega
      simp only [this]
theorem gap_v {α : Type} (f : Nat → α) {w n : Nat} (hw : w < n) (k : Nat) : gap f w n k = if w ≤ k ∧ k < n - 1 then f (k + 1) else f k := by
  unfold gap va_cpy
  have : (w ≤ k ∧ k < w + (n - w - 1)) ↔ (w ≤ k ∧ k < n - 1) := by omega
  simp only [this]
  split
  · rw [show w + 1 + (k - w) = k + 1 by omega]
  · rfl
theorem rwDrop_v (r : tRw) (w : Nat) : rwDrop r w = (r.1 - 1, gap r.2.1 w r.1, gap r.2.2.1 w r.1, gap r.2.2.2.1 w r.1, gap r.2.2.2.2.1 w r.1, r.2.2.2.2.2.1, (rwDropK r w 4).2.2.2.2.2.2) := rfl
theorem rwDropK_cnt' (r : tRw) (w : Nat) : ∀ n, (rwDropK r w n).1 = r.1
  | 0 => rfl
  | n + 1 => rwDropK_cnt' r w n
theorem rwDropK_td (r : tRw) (w : Nat) : ∀ n v, v < n → (rwDropK r w n).2.2.2.2.2.2 v = gap (r.2.2.2.2.2.2 v) w r.1
  | 0, v, h => absurd h (Nat.not_lt_zero _)
  | n + 1, v, h => by
    have out : ∀ n v, n ≤ v → (rwDropK r w n).2.2.2.2.2.2 v = r.2.2.2.2.2.2 v := by
      intro n
      induction n with
      | zero => intro v _; rfl
      | succ n ih =>
        intro v hv
        show updF _ n _ v = _
        rw [updF_n (by omega)]
        exact ih v (by omega)
    show updF _ n _ v = _
    by_cases e : v = n
    · subst e
      rw [updF_s, out v v (Nat.le_refl _), rwDropK_cnt']
    · rw [updF_n e]
      exact rwDropK_td r w n v (by omega)
theorem updN_s {f : Nat → Nat} {k v : Nat} : updN f k v k = v := if_pos rfl
theorem updN_n {f : Nat → Nat} {k v j : Nat} (h : j ≠ k) : updN f k v j = f j := if_neg h
theorem mdRmT_v (t : tMT) {k : Nat} (hk : k < 39) : ∀ m v j, j < 40 → ((mdRmT t k m).1 (40 * v + j) = (if v < m ∧ j = k then t.1 (40 * v + j + 1) else t.1 (40 * v + j)) ∧ (mdRmT t k m).2 (40 * v + j) = (if v < m ∧ j = k then t.2 (40 * v + j + 1) else t.2 (40 * v + j)))
  | 0, v, j, _ => by rw [if_neg (by omega), if_neg (by omega)]; exact ⟨rfl, rfl⟩
  | m + 1, v, j, hj => by
    show upd _ (k + 40 * m) _ (40 * v + j) = _ ∧ upd _ (k + 40 * m) _ (40 * v + j) = _
    have ih := mdRmT_v t hk m
    by_cases e : 40 * v + j = k + 40 * m
    · have e1 : v = m := by omega
      have e2 : j = k := by omega
      subst e1
      subst e2
      obtain ⟨a1, a2⟩ := ih v (j + 1) (by omega)
      rw [if_neg (by omega)] at a1 a2
      rw [e, pk_us, pk_us, if_pos (by omega), if_pos (by omega), show j + 40 * v + 1 = 40 * v + (j + 1) by omega]
      exact ⟨a1, a2⟩
    · rw [pk_un e, pk_un e, (ih v j hj).1, (ih v j hj).2]
      have : (v < m ∧ j = k) ↔ (v < m + 1 ∧ j = k) := by omega
      simp only [this]
      trivial
theorem mdRmK_v (s : tMS) (t : tMT) (w : Nat) : ∀ J, w + J ≤ 39 → (∀ k, (mdRmK s t w J).1.2.2.2.2.1 k = (if w ≤ k ∧ k < w + J then s.2.2.2.2.1 (k + 1) else s.2.2.2.2.1 k) ∧ (mdRmK s t w J).1.2.2.2.2.2.1 k = (if w ≤ k ∧ k < w + J then s.2.2.2.2.2.1 (k + 1) else s.2.2.2.2.2.1 k) ∧ (mdRmK s t w J).1.2.2.2.2.2.2.1 k = (if w ≤ k ∧ k < w + J then s.2.2.2.2.2.2.1 (k + 1) else s.2.2.2.2.2.2.1 k) ∧ (mdRmK s t w J).1.2.2.2.2.2.2.2 k = (if w ≤ k ∧ k < w + J then s.2.2.2.2.2.2.2 (k + 1) else s.2.2.2.2.2.2.2 k)) ∧ ∀ v k, v < 4 → k < 40 → (mdRmK s t w J).2.1 (40 * v + k) = (if w ≤ k ∧ k < w + J then t.1 (40 * v + k + 1) else t.1 (40 * v + k)) ∧ (mdRmK s t w J).2.2 (40 * v + k) = (if w ≤ k ∧ k < w + J then t.2 (40 * v + k + 1) else t.2 (40 * v + k))
  | 0, _ => by
    have : ∀ k, ¬ (w ≤ k ∧ k < w + 0) := fun k => by omega
    simp only [this, if_false]
    exact ⟨fun k => ⟨rfl, rfl, rfl, rfl⟩, fun v k _ _ => ⟨rfl, rfl⟩⟩
  | J + 1, hJ => by
    obtain ⟨i1, i2⟩ := mdRmK_v s t w J (by omega)
    refine ⟨fun k => ?_, fun v k hv hk => ?_⟩
    · show updN _ (w + J) _ k = _ ∧ updN _ (w + J) _ k = _ ∧ updN _ (w + J) _ k = _ ∧ upd _ (w + J) _ k = _
      by_cases e : k = w + J
      · subst e
        obtain ⟨a1, a2, a3, a4⟩ := i1 (w + J + 1)
        rw [if_neg (by omega)] at a1 a2 a3 a4
        rw [updN_s, updN_s, updN_s, pk_us, if_pos (by omega), if_pos (by omega), if_pos (by omega), if_pos (by omega)]
        exact ⟨a1, a2, a3, a4⟩
      · obtain ⟨a1, a2, a3, a4⟩ := i1 k
        have : (w ≤ k ∧ k < w + (J + 1)) ↔ (w ≤ k ∧ k < w + J) := by omega
        simp only [this]
        rw [updN_n e, updN_n e, updN_n e, pk_un e]
        exact ⟨a1, a2, a3, a4⟩
    · obtain ⟨b1, b2⟩ := mdRmT_v (mdRmK s t w J).2 (k := w + J) (by omega) 4 v k hk
      show (mdRmT (mdRmK s t w J).2 (w + J) 4).1 _ = _ ∧ (mdRmT (mdRmK s t w J).2 (w + J) 4).2 _ = _
      rw [b1, b2]
      by_cases e : k = w + J
      · subst e
        obtain ⟨c1, c2⟩ := i2 v (w + J + 1) hv (by omega)
        rw [if_neg (by omega)] at c1 c2
        rw [if_pos (by omega), if_pos (by omega), if_pos (by omega), if_pos (by omega), show 40 * v + (w + J) + 1 = 40 * v + (w + J + 1) by omega]
        exact ⟨c1, c2⟩
      · obtain ⟨c1, c2⟩ := i2 v k hv hk
        have : (w ≤ k ∧ k < w + (J + 1)) ↔ (w ≤ k ∧ k < w + J) := by omega
        simp only [this]
        rw [if_neg (show ¬ (v < 4 ∧ k = w + J) by omega), if_neg (show ¬ (v < 4 ∧ k = w + J) by omega)]
        exact ⟨c1, c2⟩
