/-! each call, on both sides -/
section LM
variable {m : tMd} {rs : tRw} {so : tOb} {tx ty : tAx} {bs : tBd}
theorem LR.np (h : LR m rs so tx ty bs) : so.1 = m.2.1.1 ∧ m.2.1.1 ≤ 16 := ⟨h.1.1, h.1.2.1⟩
theorem LR.nw (h : LR m rs so tx ty bs) : rs.1 = m.2.1.2.2.2.1 ∧ m.2.1.2.2.2.1 ≤ 40 := ⟨h.2.1.1, h.2.1.2.1⟩
theorem hB_upd {x : tAx} {u : Int32} {k : Nat} {r : Int32 × (Nat → Int32) × (Nat → Int32)} (h : hB x) (hu : bdd u 100) : hB (upd x.1 k u, r) := fun i hi => by
  show bdd (upd x.1 k u i) 100
  by_cases e : i = k
  · subst e; rw [pk_us]; exact hu
  · rw [pk_un e]; exact h i hi
theorem lm_point (h : LR m rs so tx ty bs) (u v : Int32) (out : Nat → Int64) : (mdPoint m u v).2.1 = hcd 1 2 9 (exPoint so.1 u v) ∧ (hcd 1 2 9 (exPoint so.1 u v) = 0 → xs (exPoint so.1 u v) out (vp_updL out 0 (nI so.1).toInt64) 0 = (mdPoint m u v).1.toInt64) ∧ LR (mdPoint m u v).2 rs (xs (exPoint so.1 u v) so (so.1 + 1, 0)) (xs (exPoint so.1 u v) tx (upd tx.1 so.1 u, tx.2)) (xs (exPoint so.1 u v) ty (upd ty.1 so.1 v, ty.2)) bs := by
  obtain ⟨hnp, h16⟩ := h.np
  have ex : exPoint so.1 u v = if mdIn u (-100) 100 = 0 then some "java/lang/IllegalArgumentException" else if mdIn v (-100) 100 = 0 then some "java/lang/IllegalArgumentException" else if nI m.2.1.1 = 16 then some "java/lang/IllegalStateException" else none := by
    unfold exPoint
    rw [in_reach, in_reach, hnp, show (16 : Int32) = nI 16 from rfl, in_full h16 (by omega)]
    split
    · rfl
    · split
      · rfl
      · rfl
  rw [ex]
  unfold mdPoint
  by_cases h1 : mdIn u (-100) 100 = 0
  · rw [if_pos h1, if_pos h1]
    exact ⟨(hcd_A rfl).symm, thr_A (by decide), h⟩
  · rw [if_neg h1, if_neg h1]
    by_cases h2 : mdIn v (-100) 100 = 0
    · rw [if_pos h2, if_pos h2]
      exact ⟨(hcd_A rfl).symm, thr_A (by decide), h⟩
    · rw [if_neg h2, if_neg h2]
      by_cases h3 : nI m.2.1.1 = 16
      · rw [if_pos h3, if_pos h3]
        exact ⟨(hcd_S rfl).symm, thr_S (by decide), h⟩
      · rw [if_neg h3, if_neg h3]
        have hlt : m.2.1.1 < 16 := by
          have : ¬ m.2.1.1 = 16 := fun e => h3 (by rw [e]; rfl)
          omega
        obtain ⟨⟨-, -, a1, a2, a3, a4⟩, hw, ⟨⟨c1, c2, c3, c4, c5, c6⟩, c7⟩, -⟩ := h
        refine ⟨rfl, fun _ => by rw [hnp]; rfl, ⟨?_, hlt, ?_, ?_, hB_upd a3 (in_bdd h1), hB_upd a4 (in_bdd h2)⟩, hw, ⟨⟨c1, c2, c3, c4, ?_, ?_⟩, c7⟩, Or.inl rfl⟩
        · show so.1 + 1 = m.2.1.1 + 1
          rw [hnp]
        · show upd tx.1 so.1 u = upd m.2.1.2.1 m.2.1.1 u
          rw [a1, hnp]
        · show upd ty.1 so.1 v = upd m.2.1.2.2.1 m.2.1.1 v
          rw [a2, hnp]
        · intro hb
          obtain ⟨d1, d2, d3, d4, d5, d6, d7⟩ := c5 hb
          exact ⟨d1, d2, d3, d4, Nat.lt_succ_of_lt d5, Nat.lt_succ_of_lt d6, d7⟩
        · intro k hk
          obtain ⟨d1, d2, d3, d4, d5, d6, d7⟩ := c6 k hk
          exact ⟨d1, d2, d3, d4, Nat.lt_succ_of_lt d5, Nat.lt_succ_of_lt d6, d7⟩
theorem lm_hint (h : LR m rs so tx ty bs) (i u v : Int32) : (mdHint m i u v).1 = hcd 2 9 1 (exHint so.1 i u v) ∧ LR (mdHint m i u v) rs (xs (exHint so.1 i u v) so (so.1, 0)) (xs (exHint so.1 i u v) tx (upd tx.1 (iN i) u, tx.2)) (xs (exHint so.1 i u v) ty (upd ty.1 (iN i) v, ty.2)) bs := by
  obtain ⟨hnp, h16⟩ := h.np
  have ex : exHint so.1 i u v = if mdIn i 0 (nI m.2.1.1 - 1) = 0 then some "java/lang/IndexOutOfBoundsException" else if mdIn u (-100) 100 = 0 then some "java/lang/IllegalArgumentException" else if mdIn v (-100) 100 = 0 then some "java/lang/IllegalArgumentException" else none := by
    unfold exHint
    rw [in_reach, in_reach, hnp, in_in (by omega)]
    split
    · rfl
    · split
      · rfl
      · rfl
  rw [ex]
  unfold mdHint
  by_cases h1 : mdIn i 0 (nI m.2.1.1 - 1) = 0
  · have e : mdHintT m i u v = 1 := by unfold mdHintT; rw [if_pos h1]
    rw [e, if_pos h1, if_neg (by decide)]
    exact ⟨(hcd_B rfl).symm, h⟩
  · by_cases h2 : mdIn u (-100) 100 = 0
    · have e : mdHintT m i u v = 2 := by unfold mdHintT; rw [if_neg h1, if_pos h2]
      rw [e, if_neg h1, if_pos h2, if_neg (by decide)]
      exact ⟨(hcd_A rfl).symm, h⟩
    · by_cases h3 : mdIn v (-100) 100 = 0
      · have e : mdHintT m i u v = 2 := by unfold mdHintT; rw [if_neg h1, if_neg h2, if_pos h3]
        rw [e, if_neg h1, if_neg h2, if_pos h3, if_neg (by decide)]
        exact ⟨(hcd_A rfl).symm, h⟩
      · have e : mdHintT m i u v = 0 := by unfold mdHintT; rw [if_neg h1, if_neg h2, if_neg h3]
        rw [e, if_neg h1, if_neg h2, if_neg h3, if_pos rfl]
        obtain ⟨⟨b1, b2, a1, a2, a3, a4⟩, hw, hb, -⟩ := h
        refine ⟨rfl, ⟨b1, b2, ?_, ?_, hB_upd a3 (in_bdd h2), hB_upd a4 (in_bdd h3)⟩, hw, hb, Or.inl rfl⟩
        · show upd tx.1 (iN i) u = upd m.2.1.2.1 (iN i) u
          rw [a1]
        · show upd ty.1 (iN i) v = upd m.2.1.2.2.1 (iN i) v
          rw [a2]
theorem nI_lt40 {n : Nat} (h40 : n ≤ 40) (h : ¬ nI n = 40) : n < 40 := by
  have : ¬ n = 40 := fun e => h (by rw [e]; rfl)
  omega
theorem bdd_0 : bdd 0 100 := ⟨by decide, by decide⟩
theorem app_r {s : tMS} {t : tMT} (hr : rwsR s t rs) {so0 : tOb} {tx0 ty0 : tAx} (hp : ptR s so0 tx0 ty0) {kd i j ot : Nat} {d sz : Int32} (hk : kd ≤ 2) (hi : i < s.1) (hj : kd < 2 → j < s.1 ∧ ot = j ∧ sz = d ∧ bdd d 100) (ho : ot < 16) (hsz : bdd sz 100) (h40 : s.2.2.2.1 < 40) : rwsR (s.1, s.2.1, s.2.2.1, s.2.2.2.1 + 1, updN s.2.2.2.2.1 s.2.2.2.1 kd, updN s.2.2.2.2.2.1 s.2.2.2.1 i, updN s.2.2.2.2.2.2.1 s.2.2.2.1 j, upd s.2.2.2.2.2.2.2 s.2.2.2.1 d) (t.1, mdTlK t.2 s.2.2.2.1 4) (rwApp rs (nI kd) i ot sz) := by
  obtain ⟨e, -, hw, hz, htd, htl⟩ := hr
  have h16 := hp.2.1
  rw [rwApp_v]
  refine ⟨by show rs.1 + 1 = _; rw [e], h40, fun k hk' => ?_, fun k hk' => ?_, fun v k hv hk' => ?_, fun q => ?_⟩
  · show updN s.2.2.2.2.1 s.2.2.2.1 kd k ≤ 2 ∧ upd rs.2.1 rs.1 (nI kd) k = nI (updN s.2.2.2.2.1 s.2.2.2.1 kd k) ∧ updN rs.2.2.1 rs.1 i k = updN s.2.2.2.2.2.1 s.2.2.2.1 i k ∧ updN s.2.2.2.2.2.1 s.2.2.2.1 i k < 16 ∧ (updN s.2.2.2.2.1 s.2.2.2.1 kd k < 2 → updN rs.2.2.2.1 rs.1 ot k = updN s.2.2.2.2.2.2.1 s.2.2.2.1 j k ∧ upd rs.2.2.2.2.1 rs.1 sz k = upd s.2.2.2.2.2.2.2 s.2.2.2.1 d k ∧ updN s.2.2.2.2.2.2.1 s.2.2.2.1 j k < 16)
    rw [e]
    by_cases ek : k = s.2.2.2.1
    · subst ek
      rw [updN_s, updN_s, updN_s, updN_s, updN_s, pk_us, pk_us, pk_us]
      exact ⟨hk, rfl, rfl, by omega, fun h2 => by
        obtain ⟨q1, q2, q3, -⟩ := hj h2
        exact ⟨q2, q3, by omega⟩⟩
    · rw [updN_n ek, updN_n ek, updN_n ek, updN_n ek, updN_n ek, pk_un ek, pk_un ek, pk_un ek]
      exact hw k (by have : k < s.2.2.2.1 + 1 := hk'; omega)
  · show updN rs.2.2.1 rs.1 i k < 16 ∧ updN rs.2.2.2.1 rs.1 ot k < 16 ∧ bdd (upd rs.2.2.2.2.1 rs.1 sz k) 100
    by_cases ek : k = rs.1
    · subst ek
      rw [updN_s, updN_s, pk_us]
      exact ⟨by omega, ho, hsz⟩
    · rw [updN_n ek, updN_n ek, pk_un ek]
      exact hz k (by have : k < rs.1 + 1 := hk'; omega)
  · show (mdTlK t.2 s.2.2.2.1 4 (40 * v + k) = 0 → _ = _) ∧ (¬ mdTlK t.2 s.2.2.2.1 4 (40 * v + k) = 0 → _ = t.1 (40 * v + k) ∧ bdd (t.1 (40 * v + k)) 100 ∧ ¬ updN s.2.2.2.2.1 s.2.2.2.1 kd k = 2)
    have hk2 : k < s.2.2.2.1 + 1 := hk'
    rw [rwAppK_td rs (nI kd) i ot sz 4 v hv, mdTlK_v t.2 h40 4 v k (by omega), e]
    by_cases ek : k = s.2.2.2.1
    · subst ek
      rw [if_pos ⟨hv, rfl⟩, pk_us]
      exact ⟨fun _ => rfl, fun h => absurd rfl h⟩
    · rw [if_neg (fun h => ek h.2), pk_un ek, updN_n ek]
      exact htd v k hv (by omega)
  · show mdTlK t.2 s.2.2.2.1 4 q = 0 ∨ mdTlK t.2 s.2.2.2.1 4 q = 1
    have : ∀ n, mdTlK t.2 s.2.2.2.1 n q = 0 ∨ mdTlK t.2 s.2.2.2.1 n q = 1 := by
      intro n
      induction n with
      | zero => exact htl q
      | succ n ih =>
        show upd _ _ _ q = 0 ∨ upd _ _ _ q = 1
        by_cases eq : q = 40 * n + s.2.2.2.1
        · rw [eq, pk_us]; exact Or.inl rfl
        · rw [pk_un eq]; exact ih
    exact this 4
theorem in_02 {k : Int32} (h : ¬ mdIn k 0 2 = 0) : ¬ k < 0 ∧ k ≤ 2 ∧ iN k ≤ 2 ∧ (2 ≤ k ↔ k = 2) ∧ (k = 2 ↔ iN k = 2) := by
  unfold mdIn at h
  split at h
  · exact absurd rfl h
  · rename_i h1
    split at h
    · exact absurd rfl h
    · rename_i h2
      have h3 := fa_of_nlt h2
      obtain ⟨j, hj, rfl⟩ := nI_of h1
      have e2 : (2 : Int32) = nI 2 := rfl
      rw [e2] at h3 ⊢
      have h4 := (nI_leI (by omega) (by omega)).mp h3
      have a : nI 2 ≤ nI j ↔ 2 ≤ j := nI_leI (by omega) (by omega)
      have b : nI j = nI 2 ↔ j = 2 := nI_eqn (by omega) (by omega)
      rw [iN_nI (by omega)]
      exact ⟨h1, h3, h4, by rw [a, b]; omega, b⟩
theorem in_02n {k : Int32} (h : mdIn k 0 2 = 0) : k < 0 ∨ ¬ k ≤ 2 := by
  unfold mdIn at h
  split at h
  · rename_i h1; exact Or.inl h1
  · split at h
    · rename_i h2; exact Or.inr (fun h3 => (fa_of_lt h2).2.1 h3)
    · exact absurd h (by decide)
theorem exWish_A {n c : Nat} {k i j d : Int32} (h : k < 0 ∨ ¬ k ≤ 2) : exWish n c k i j d = some "java/lang/IllegalArgumentException" := by
  unfold exWish
  by_cases h1 : k < 0
  · rw [if_pos h1]
  · rw [if_neg h1, if_neg (h.resolve_left h1)]
theorem lm_wish (h : LR m rs so tx ty bs) (k i j d : Int32) (out : Nat → Int64) : (mdWish m k i j d).2.1 = hcd 1 3 2 (exWish so.1 rs.1 k i j d) ∧ (hcd 1 3 2 (exWish so.1 rs.1 k i j d) = 0 → xs (exWish so.1 rs.1 k i j d) out (vp_updL out 0 (nI rs.1).toInt64) 0 = (mdWish m k i j d).1.toInt64) ∧ LR (mdWish m k i j d).2 (xs (exWish so.1 rs.1 k i j d) rs (rwWish rs k i j d)) (xs (exWish so.1 rs.1 k i j d) so (so.1, 0)) tx ty bs := by
  obtain ⟨hnp, h16⟩ := h.np
  obtain ⟨hnw, h40⟩ := h.nw
  by_cases h1 : mdIn k 0 2 = 0
  · rw [exWish_A (in_02n h1)]
    have f : mdWish m k i j d = (0, 1, m.2) := by unfold mdWish; rw [if_pos h1]
    rw [f]
    exact ⟨(hcd_A rfl).symm, thr_A (by decide), h⟩
  · obtain ⟨k1, k2, k3, k4, k5⟩ := in_02 h1
    by_cases hk2 : k = 2
    · have ex : exWish so.1 rs.1 k i j d = if mdIn i 0 (nI m.2.1.1 - 1) = 0 then some "java/lang/IndexOutOfBoundsException" else if nI m.2.1.2.2.2.1 = 40 then some "java/lang/IllegalStateException" else none := by
        unfold exWish
        rw [if_neg k1, if_pos k2, if_pos hk2, hnp, hnw, in_in (by omega), show (40 : Int32) = nI 40 from rfl, in_full h40 (by omega)]
        split
        · rfl
        · rfl
      have f : mdWish m k i j d = if mdIn i 0 (nI m.2.1.1 - 1) = 0 then (0, 2, m.2) else if nI m.2.1.2.2.2.1 = 40 then (0, 3, m.2) else (nI m.2.1.2.2.2.1, 0, (m.2.1.1, m.2.1.2.1, m.2.1.2.2.1, m.2.1.2.2.2.1 + 1, updN m.2.1.2.2.2.2.1 m.2.1.2.2.2.1 (iN k), updN m.2.1.2.2.2.2.2.1 m.2.1.2.2.2.1 (iN i), updN m.2.1.2.2.2.2.2.2.1 m.2.1.2.2.2.1 (iN j), upd m.2.1.2.2.2.2.2.2.2 m.2.1.2.2.2.1 d), (m.2.2.1.1, mdTlK m.2.2.1.2 m.2.1.2.2.2.1 4), m.2.2.2) := by
        unfold mdWish
        rw [if_neg h1, if_pos (k4.mpr hk2)]
      rw [ex, f]
      by_cases h2 : mdIn i 0 (nI m.2.1.1 - 1) = 0
      · rw [if_pos h2, if_pos h2]
        exact ⟨(hcd_B rfl).symm, thr_B (by decide), h⟩
      · rw [if_neg h2, if_neg h2]
        by_cases h3 : nI m.2.1.2.2.2.1 = 40
        · rw [if_pos h3, if_pos h3]
          exact ⟨(hcd_S rfl).symm, thr_S (by decide), h⟩
        · rw [if_neg h3, if_neg h3]
          have hi := mdIn_lt (by omega) h2
          obtain ⟨hp, hr, hb, -⟩ := h
          have hr' := app_r hr hp (kd := iN k) (i := iN i) (j := iN j) (ot := iN i) (d := d) (sz := 0) k3 hi (fun h => absurd (k5.mp hk2) (by omega)) (by omega) bdd_0 (nI_lt40 h40 h3)
          rw [← nI_iN k] at hr'
          refine ⟨rfl, fun _ => by rw [hnw]; rfl, hp, ?_, hb, Or.inl rfl⟩
          show rwsR _ _ (rwWish rs k i j d)
          unfold rwWish
          rw [if_pos hk2]
          exact hr'
    · have ex : exWish so.1 rs.1 k i j d = if mdIn d (-100) 100 = 0 then some "java/lang/IllegalArgumentException" else if i = j then some "java/lang/IllegalArgumentException" else if mdIn i 0 (nI m.2.1.1 - 1) = 0 then some "java/lang/IndexOutOfBoundsException" else if mdIn j 0 (nI m.2.1.1 - 1) = 0 then some "java/lang/IndexOutOfBoundsException" else if nI m.2.1.2.2.2.1 = 40 then some "java/lang/IllegalStateException" else none := by
        unfold exWish
        rw [if_neg k1, if_pos k2, if_neg hk2, hnp, hnw, in_reach, in_in (by omega), in_in (by omega), show (40 : Int32) = nI 40 from rfl, in_full h40 (by omega)]
        split
        · rfl
        · split
          · rfl
          · split
            · rfl
            · split
              · rfl
              · rfl
      have f : mdWish m k i j d = if mdIn d (-100) 100 = 0 then (0, 1, m.2) else if i = j then (0, 1, m.2) else if mdIn i 0 (nI m.2.1.1 - 1) = 0 then (0, 2, m.2) else if mdIn j 0 (nI m.2.1.1 - 1) = 0 then (0, 2, m.2) else if nI m.2.1.2.2.2.1 = 40 then (0, 3, m.2) else (nI m.2.1.2.2.2.1, 0, (m.2.1.1, m.2.1.2.1, m.2.1.2.2.1, m.2.1.2.2.2.1 + 1, updN m.2.1.2.2.2.2.1 m.2.1.2.2.2.1 (iN k), updN m.2.1.2.2.2.2.2.1 m.2.1.2.2.2.1 (iN i), updN m.2.1.2.2.2.2.2.2.1 m.2.1.2.2.2.1 (iN j), upd m.2.1.2.2.2.2.2.2.2 m.2.1.2.2.2.1 d), (m.2.2.1.1, mdTlK m.2.2.1.2 m.2.1.2.2.2.1 4), m.2.2.2) := by
        unfold mdWish
        rw [if_neg h1, if_neg (fun q => hk2 (k4.mp q))]
      rw [ex, f]
      by_cases h2 : mdIn d (-100) 100 = 0
      · rw [if_pos h2, if_pos h2]
        exact ⟨(hcd_A rfl).symm, thr_A (by decide), h⟩
      · rw [if_neg h2, if_neg h2]
        by_cases h3 : i = j
        · rw [if_pos h3, if_pos h3]
          exact ⟨(hcd_A rfl).symm, thr_A (by decide), h⟩
        · rw [if_neg h3, if_neg h3]
          by_cases h4 : mdIn i 0 (nI m.2.1.1 - 1) = 0
          · rw [if_pos h4, if_pos h4]
            exact ⟨(hcd_B rfl).symm, thr_B (by decide), h⟩
          · rw [if_neg h4, if_neg h4]
            by_cases h5 : mdIn j 0 (nI m.2.1.1 - 1) = 0
            · rw [if_pos h5, if_pos h5]
              exact ⟨(hcd_B rfl).symm, thr_B (by decide), h⟩
            · rw [if_neg h5, if_neg h5]
              by_cases h6 : nI m.2.1.2.2.2.1 = 40
              · rw [if_pos h6, if_pos h6]
                exact ⟨(hcd_S rfl).symm, thr_S (by decide), h⟩
              · rw [if_neg h6, if_neg h6]
                have hi := mdIn_lt (by omega) h4
                have hj := mdIn_lt (by omega) h5
                obtain ⟨hp, hr, hb, -⟩ := h
                have hr' := app_r hr hp (kd := iN k) (i := iN i) (j := iN j) (ot := iN j) (d := d) (sz := d) k3 hi (fun _ => ⟨hj, rfl, rfl, in_bdd h2⟩) (by omega) (in_bdd h2) (nI_lt40 h40 h6)
                rw [← nI_iN k] at hr'
                refine ⟨rfl, fun _ => by rw [hnw]; rfl, hp, ?_, hb, Or.inl rfl⟩
                show rwsR _ _ (rwWish rs k i j d)
                unfold rwWish
                rw [if_neg hk2]
                exact hr'
end LM
