/-! each call, on both sides: the rest -/
section LM
variable {m : tMd} {rs : tRw} {so : tOb} {tx ty : tAx} {bs : tBd}
/-- a wish taken away -/
theorem drop_r {s : tMS} {t : tMT} (hr : rwsR s t rs) {w : Nat} (hw : w < s.2.2.2.1) : rwsR (mdRm s t w).1 (mdRm s t w).2 (rwDrop rs w) := by
  obtain ⟨e, h40, hws, hz, htd, htl⟩ := hr
  obtain ⟨r1, r2⟩ := mdRmK_v s t w (s.2.2.2.1 - 1 - w) (by omega)
  obtain ⟨q1, q2, q3, q4⟩ := mdRmK_s s t w (s.2.2.2.1 - 1 - w)
  have hwr : w < rs.1 := by omega
  have hend : w + (s.2.2.2.1 - 1 - w) = s.2.2.2.1 - 1 := by omega
  rw [hend] at r1 r2
  have hnw : (mdRm s t w).1.2.2.2.1 = s.2.2.2.1 - 1 := by unfold mdRm; rw [q4]
  rw [rwDrop_v]
  refine ⟨?_, by rw [hnw]; omega, fun k hk => ?_, fun k hk => ?_, fun v k hv hk => ?_, mdRmK01 htl w _⟩
  · rw [hnw]
    show rs.1 - 1 = _
    rw [e]
  · rw [hnw] at hk
    obtain ⟨a1, a2, a3, a4⟩ := r1 k
    show (mdRmK s t w _).1.2.2.2.2.1 k ≤ 2 ∧ gap rs.2.1 w rs.1 k = nI ((mdRmK s t w _).1.2.2.2.2.1 k) ∧ gap rs.2.2.1 w rs.1 k = (mdRmK s t w _).1.2.2.2.2.2.1 k ∧ (mdRmK s t w _).1.2.2.2.2.2.1 k < 16 ∧ ((mdRmK s t w _).1.2.2.2.2.1 k < 2 → gap rs.2.2.2.1 w rs.1 k = (mdRmK s t w _).1.2.2.2.2.2.2.1 k ∧ gap rs.2.2.2.2.1 w rs.1 k = (mdRmK s t w _).1.2.2.2.2.2.2.2 k ∧ (mdRmK s t w _).1.2.2.2.2.2.2.1 k < 16)
    rw [gap_v _ hwr, gap_v _ hwr, gap_v _ hwr, gap_v _ hwr, a1, a2, a3, a4, e]
    by_cases hc : w ≤ k ∧ k < s.2.2.2.1 - 1
    · simp only [hc, if_true, and_self]
      exact hws (k + 1) (by omega)
    · simp only [hc, if_false]
      exact hws k (by omega)
  · have hk : k < rs.1 - 1 := hk
    show gap rs.2.2.1 w rs.1 k < 16 ∧ gap rs.2.2.2.1 w rs.1 k < 16 ∧ bdd (gap rs.2.2.2.2.1 w rs.1 k) 100
    rw [gap_v _ hwr, gap_v _ hwr, gap_v _ hwr]
    by_cases hc : w ≤ k ∧ k < rs.1 - 1
    · simp only [hc, if_true, and_self]
      exact hz (k + 1) (by omega)
    · simp only [hc, if_false]
      exact hz k (by omega)
  · rw [hnw] at hk
    obtain ⟨b1, b2⟩ := r2 v k hv (by omega)
    obtain ⟨a1, -⟩ := r1 k
    show ((mdRmK s t w _).2.2 (40 * v + k) = 0 → (rwDropK rs w 4).2.2.2.2.2.2 v k = 101) ∧ (¬ (mdRmK s t w _).2.2 (40 * v + k) = 0 → (rwDropK rs w 4).2.2.2.2.2.2 v k = (mdRmK s t w _).2.1 (40 * v + k) ∧ bdd ((mdRmK s t w _).2.1 (40 * v + k)) 100 ∧ ¬ (mdRmK s t w _).1.2.2.2.2.1 k = 2)
    rw [rwDropK_td rs w 4 v hv, gap_v _ hwr, b1, b2, a1, e]
    by_cases hc : w ≤ k ∧ k < s.2.2.2.1 - 1
    · simp only [hc, if_true, and_self]
      exact htd v (k + 1) hv (by omega)
    · simp only [hc, if_false]
      exact htd v k hv (by omega)
theorem lm_remove (h : LR m rs so tx ty bs) (i : Int32) (out : Nat → Int64) : (mdRemove m i).2.1 = hcd 9 9 1 (exIn rs.1 i) ∧ (hcd 9 9 1 (exIn rs.1 i) = 0 → xs (exIn rs.1 i) out (vp_updL out 0 (skS so rs tx ty (iN i)).toInt64) 0 = (mdRemove m i).1.toInt64) ∧ LR (mdRemove m i).2 (xs (exIn rs.1 i) rs (rwDrop (rwSt rs (skS so rs tx ty)) (iN i))) (xs (exIn rs.1 i) so (so.1, 0)) (xs (exIn rs.1 i) tx (skX so rs tx ty)) (xs (exIn rs.1 i) ty (skY so rs tx ty)) bs := by
  obtain ⟨hnw, h40⟩ := h.nw
  have ex : exIn rs.1 i = if mdIn i 0 (nI m.2.1.2.2.2.1 - 1) = 0 then some "java/lang/IndexOutOfBoundsException" else none := by rw [hnw, in_in (by omega)]
  rw [ex]
  unfold mdRemove
  by_cases h1 : mdIn i 0 (nI m.2.1.2.2.2.1 - 1) = 0
  · rw [if_pos h1, if_pos h1]
    exact ⟨(hcd_B rfl).symm, thr_B (by decide), h⟩
  · rw [if_neg h1, if_neg h1]
    have hi := mdIn_lt (by omega) h1
    obtain ⟨k1, -, -⟩ := settle_r h
    obtain ⟨⟨p1, p2, p3, p4, p5⟩, hr, ⟨⟨c1, c2, c3, c4, c5, c6⟩, c7⟩, -⟩ := LRs.set h
    obtain ⟨q1, q2, q3, q4⟩ := mdRmK_s m.2.1 m.2.2.1 (iN i) (m.2.1.2.2.2.1 - 1 - iN i)
    refine ⟨rfl, fun _ => ?_, ⟨?_, ?_, ?_, ?_, p5⟩, drop_r hr hi, ⟨⟨c1, c2, c3, c4, ?_, ?_⟩, c7⟩, Or.inl rfl⟩
    · show (skS so rs tx ty (iN i)).toInt64 = ((mdSolve m.2.1 m.2.2.2.1).1 (iN i)).toInt64
      rw [(k1 m.2.2.2.1).1 _ hi]
    · exact p1.trans q1.symm
    · show (mdRmK m.2.1 m.2.2.1 (iN i) _).1.1 ≤ 16
      rw [q1]; exact p2
    · exact p3.trans q2.symm
    · exact p4.trans q3.symm
    · show ¬ _ = _ → _
      intro hb
      have := c5 hb
      show _ ∧ _ ∧ _ ∧ _ ∧ _ < (mdRmK m.2.1 m.2.2.1 (iN i) _).1.1 ∧ _ < (mdRmK m.2.1 m.2.2.1 (iN i) _).1.1 ∧ _
      rw [q1]
      exact this
    · intro k hk
      have := c6 k hk
      show _ ∧ _ ∧ _ ∧ _ ∧ _ < (mdRmK m.2.1 m.2.2.1 (iN i) _).1.1 ∧ _ < (mdRmK m.2.1 m.2.2.1 (iN i) _).1.1 ∧ _
      rw [q1]
      exact this
theorem lm_type (h : LR m rs so tx ty bs) (i d : Int32) (out : Nat → Int64) : (mdType m i d).2.1 = hcd 3 2 1 (exType rs.1 rs.2.1 i d) ∧ (hcd 3 2 1 (exType rs.1 rs.2.1 i d) = 0 → xs (exType rs.1 rs.2.1 i d) out (vp_updL out 0 (rs.2.2.2.2.1 (iN i)).toInt64) 0 = (mdType m i d).1.toInt64) ∧ LR (mdType m i d).2 (xs (exType rs.1 rs.2.1 i d) rs (rs.1, rs.2.1, rs.2.2.1, rs.2.2.2.1, upd rs.2.2.2.2.1 (iN i) d, rs.2.2.2.2.2.1, rs.2.2.2.2.2.2)) (xs (exType rs.1 rs.2.1 i d) so (so.1, 0)) tx ty bs := by
  obtain ⟨hnw, h40⟩ := h.nw
  have e1 : exIn rs.1 i = if mdIn i 0 (nI m.2.1.2.2.2.1 - 1) = 0 then some "java/lang/IndexOutOfBoundsException" else none := by rw [hnw, in_in (by omega)]
  unfold exType mdType
  rw [in_reach, e1]
  by_cases h1 : mdIn i 0 (nI m.2.1.2.2.2.1 - 1) = 0
  · rw [if_pos h1, if_pos h1]
    exact ⟨(hcd_B rfl).symm, thr_B (by decide), h⟩
  · rw [if_neg h1, if_neg h1]
    have hi := mdIn_lt (by omega) h1
    obtain ⟨w1, w2, w3, w4, w5⟩ := h.2.1.2.2.1 _ hi
    unfold exSized
    rw [w2]
    by_cases h2 : nI (m.2.1.2.2.2.2.1 (iN i)) = 2
    · rw [if_pos h2, if_pos h2]
      exact ⟨(hcd_S rfl).symm, thr_S (by decide), h⟩
    · rw [if_neg h2, if_neg h2]
      have hlt : m.2.1.2.2.2.2.1 (iN i) < 2 := by
        have : ¬ m.2.1.2.2.2.2.1 (iN i) = 2 := fun e => h2 (by rw [e]; rfl)
        omega
      by_cases h3 : mdIn d (-100) 100 = 0
      · rw [if_pos h3, if_pos h3]
        exact ⟨(hcd_A rfl).symm, thr_A (by decide), h⟩
      · rw [if_neg h3, if_neg h3]
        obtain ⟨hp, ⟨e, _, hws, hz, htd, htl⟩, hb, -⟩ := h
        refine ⟨rfl, fun _ => ?_, hp, ⟨hnw, h40, fun k hk => ?_, fun k hk => ?_, htd, htl⟩, hb, Or.inl rfl⟩
        · show (rs.2.2.2.2.1 (iN i)).toInt64 = (m.2.1.2.2.2.2.2.2.2 (iN i)).toInt64
          rw [(w5 hlt).2.1]
        · obtain ⟨a1, a2, a3, a4, a5⟩ := hws k hk
          refine ⟨a1, a2, a3, a4, fun hk2 => ⟨(a5 hk2).1, ?_, (a5 hk2).2.2⟩⟩
          show upd rs.2.2.2.2.1 (iN i) d k = upd m.2.1.2.2.2.2.2.2.2 (iN i) d k
          by_cases ek : k = iN i
          · rw [ek, pk_us, pk_us]
          · rw [pk_un ek, pk_un ek]; exact (a5 hk2).2.1
        · obtain ⟨b1, b2, b3⟩ := hz k hk
          refine ⟨b1, b2, ?_⟩
          show bdd (upd rs.2.2.2.2.1 (iN i) d k) 100
          by_cases ek : k = iN i
          · rw [ek, pk_us]; exact in_bdd h3
          · rw [pk_un ek]; exact b3
theorem lm_state (h : LR m rs so tx ty bs) (i : Int32) (out : Nat → Int64) : (mdState m i).2.1 = hcd 9 9 1 (exIn rs.1 i) ∧ (hcd 9 9 1 (exIn rs.1 i) = 0 → xs (exIn rs.1 i) out (vp_updL out 0 (skS so rs tx ty (iN i)).toInt64) 0 = (mdState m i).1.toInt64) ∧ LR (mdState m i).2 (xs (exIn rs.1 i) rs (rwSt rs (skS so rs tx ty))) (xs (exIn rs.1 i) so (so.1, skF so)) (xs (exIn rs.1 i) tx (skX so rs tx ty)) (xs (exIn rs.1 i) ty (skY so rs tx ty)) bs := by
  obtain ⟨hnw, h40⟩ := h.nw
  rw [hnw, in_in (by omega)]
  unfold mdState
  by_cases h1 : mdIn i 0 (nI m.2.1.2.2.2.1 - 1) = 0
  · rw [if_pos h1, if_pos h1]
    exact ⟨(hcd_B rfl).symm, thr_B (by decide), h⟩
  · rw [if_neg h1, if_neg h1]
    have hi := mdIn_lt (by omega) h1
    obtain ⟨k1, -, -⟩ := settle_r h
    refine ⟨rfl, fun _ => ?_, LRs.set h⟩
    show (skS so rs tx ty (iN i)).toInt64 = ((mdSolve m.2.1 m.2.2.2.1).1 (iN i)).toInt64
    rw [(k1 m.2.2.2.1).1 _ hi]
theorem lm_x (h : LR m rs so tx ty bs) (i : Int32) (out : Nat → Int64) : (mdXy 0 m i).2.1 = hcd 9 9 1 (exIn so.1 i) ∧ (hcd 9 9 1 (exIn so.1 i) = 0 → xs (exIn so.1 i) out (vp_updL out 0 (axPl (skX so rs tx ty) (iN i)).toInt64) 0 = (mdXy 0 m i).1.toInt64) ∧ LR (mdXy 0 m i).2 (xs (exIn so.1 i) rs (rwSt rs (skS so rs tx ty))) (xs (exIn so.1 i) so (so.1, skF so)) (xs (exIn so.1 i) tx (skX so rs tx ty)) (xs (exIn so.1 i) ty (skY so rs tx ty)) bs := by
  obtain ⟨hnp, h16⟩ := h.np
  have ex : exIn so.1 i = if mdIn i 0 (nI m.2.1.1 - 1) = 0 then some "java/lang/IndexOutOfBoundsException" else none := by rw [hnp, in_in (by omega)]
  rw [ex]
  unfold mdXy
  by_cases h1 : mdIn i 0 (nI m.2.1.1 - 1) = 0
  · rw [if_pos h1, if_pos h1]
    exact ⟨(hcd_B rfl).symm, thr_B (by decide), h⟩
  · rw [if_neg h1, if_neg h1]
    have hi := mdIn_lt (by omega) h1
    obtain ⟨k1, -, -⟩ := settle_r h
    refine ⟨rfl, fun _ => ?_, LRs.set h⟩
    show (axPl (skX so rs tx ty) (iN i)).toInt64 = (mdPl m.2.1 (mdSolve m.2.1 m.2.2.2.1) 0 (iN i)).toInt64
    rw [((k1 m.2.2.2.1).2.1 _ hi).1]
theorem lm_y (h : LR m rs so tx ty bs) (i : Int32) (out : Nat → Int64) : (mdXy 1 m i).2.1 = hcd 9 9 1 (exIn so.1 i) ∧ (hcd 9 9 1 (exIn so.1 i) = 0 → xs (exIn so.1 i) out (vp_updL out 0 (axPl (skY so rs tx ty) (iN i)).toInt64) 0 = (mdXy 1 m i).1.toInt64) ∧ LR (mdXy 1 m i).2 (xs (exIn so.1 i) rs (rwSt rs (skS so rs tx ty))) (xs (exIn so.1 i) so (so.1, skF so)) (xs (exIn so.1 i) tx (skX so rs tx ty)) (xs (exIn so.1 i) ty (skY so rs tx ty)) bs := by
  obtain ⟨hnp, h16⟩ := h.np
  have ex : exIn so.1 i = if mdIn i 0 (nI m.2.1.1 - 1) = 0 then some "java/lang/IndexOutOfBoundsException" else none := by rw [hnp, in_in (by omega)]
  rw [ex]
  unfold mdXy
  by_cases h1 : mdIn i 0 (nI m.2.1.1 - 1) = 0
  · rw [if_pos h1, if_pos h1]
    exact ⟨(hcd_B rfl).symm, thr_B (by decide), h⟩
  · rw [if_neg h1, if_neg h1]
    have hi := mdIn_lt (by omega) h1
    obtain ⟨k1, -, -⟩ := settle_r h
    refine ⟨rfl, fun _ => ?_, LRs.set h⟩
    show (axPl (skY so rs tx ty) (iN i)).toInt64 = (mdPl m.2.1 (mdSolve m.2.1 m.2.2.2.1) 1 (iN i)).toInt64
    rw [((k1 m.2.2.2.1).2.1 _ hi).2.1]
theorem bdd_101 {x : Int32} (h : bdd x 100) : ¬ x = 101 := fun e => by
  have := h.1
  rw [e] at this
  exact absurd this (by decide)
theorem count_r {s : tMS} {t : tMT} {rs' : tRw} (htd : tdR rs' s t) {v : Nat} (hv : v < 4) : ∀ k, k ≤ s.2.2.2.1 → rwCountK rs' v k = mdCntK t.2 v k
  | 0, _ => rfl
  | k + 1, hk => by
    obtain ⟨a1, a2⟩ := htd v k hv (by omega)
    rw [rwCountK, mdCntK, count_r htd hv k (by omega)]
    by_cases h : t.2 (40 * v + k) = 0
    · rw [if_pos (a1 h), if_pos h, Int32.add_zero]
    · obtain ⟨b1, b2, -⟩ := a2 h
      rw [if_neg (by rw [b1]; exact bdd_101 b2), if_neg h]
theorem lm_tell (h : LR m rs so tx ty bs) (v i d : Int32) (out : Nat → Int64) : (mdTell m v i d).2.1 = hcd 1 3 2 (exTell rs.1 rs.2.1 v i d) ∧ (hcd 1 3 2 (exTell rs.1 rs.2.1 v i d) = 0 → xs (exTell rs.1 rs.2.1 v i d) out (vp_updL out 0 (rwCountK (rs.1, rs.2.1, rs.2.2.1, rs.2.2.2.1, rs.2.2.2.2.1, rs.2.2.2.2.2.1, updF rs.2.2.2.2.2.2 (iN v) (upd (rs.2.2.2.2.2.2 (iN v)) (iN i) d)) (iN v) rs.1).toInt64) 0 = (mdTell m v i d).1.toInt64) ∧ LR (mdTell m v i d).2 (xs (exTell rs.1 rs.2.1 v i d) rs (rs.1, rs.2.1, rs.2.2.1, rs.2.2.2.1, rs.2.2.2.2.1, rs.2.2.2.2.2.1, updF rs.2.2.2.2.2.2 (iN v) (upd (rs.2.2.2.2.2.2 (iN v)) (iN i) d))) so tx ty bs := by
  obtain ⟨hnw, h40⟩ := h.nw
  have ex : exTell rs.1 rs.2.1 v i d = xo (exVar v) (xo (exReach d) (xo (exIn rs.1 i) (exSized (rs.2.1 (iN i))))) := rfl
  rw [ex, in_var, in_reach, show exIn rs.1 i = exIn m.2.1.2.2.2.1 i by rw [hnw], in_in (by omega)]
  unfold mdTell
  by_cases h1 : mdIn v 0 3 = 0
  · rw [if_pos h1, if_pos h1]
    exact ⟨(hcd_A rfl).symm, thr_A (by decide), h⟩
  · rw [if_neg h1, if_neg h1]
    by_cases h2 : mdIn d (-100) 100 = 0
    · rw [if_pos h2, if_pos h2]
      exact ⟨(hcd_A rfl).symm, thr_A (by decide), h⟩
    · rw [if_neg h2, if_neg h2]
      by_cases h3 : mdIn i 0 (nI m.2.1.2.2.2.1 - 1) = 0
      · rw [if_pos h3, if_pos h3]
        exact ⟨(hcd_B rfl).symm, thr_B (by decide), h⟩
      · rw [if_neg h3, if_neg h3]
        have hi := mdIn_lt (by omega) h3
        have hv := mdIn_lt3 h1
        obtain ⟨w1, w2, w3, w4, w5⟩ := h.2.1.2.2.1 _ hi
        unfold exSized
        rw [w2]
        by_cases h4 : nI (m.2.1.2.2.2.2.1 (iN i)) = 2
        · rw [if_pos h4, if_pos h4]
          exact ⟨(hcd_S rfl).symm, thr_S (by decide), h⟩
        · rw [if_neg h4, if_neg h4]
          obtain ⟨hp, ⟨e, _, hws, hz, htd, htl⟩, hb, hs⟩ := h
          have htd' : tdR (rs.1, rs.2.1, rs.2.2.1, rs.2.2.2.1, rs.2.2.2.2.1, rs.2.2.2.2.2.1, updF rs.2.2.2.2.2.2 (iN v) (upd (rs.2.2.2.2.2.2 (iN v)) (iN i) d)) m.2.1 (upd m.2.2.1.1 (40 * iN v + iN i) d, upd m.2.2.1.2 (40 * iN v + iN i) 1) := by
            intro v' k hv' hk
            show (upd m.2.2.1.2 _ 1 (40 * v' + k) = 0 → updF rs.2.2.2.2.2.2 (iN v) _ v' k = 101) ∧ (¬ upd m.2.2.1.2 _ 1 (40 * v' + k) = 0 → updF rs.2.2.2.2.2.2 (iN v) _ v' k = upd m.2.2.1.1 _ d (40 * v' + k) ∧ bdd (upd m.2.2.1.1 _ d (40 * v' + k)) 100 ∧ ¬ m.2.1.2.2.2.2.1 k = 2)
            by_cases ec : v' = iN v ∧ k = iN i
            · obtain ⟨e1, e2⟩ := ec
              rw [e1, e2, pk_us, pk_us, updF_s, pk_us]
              exact ⟨fun h => absurd h (by decide), fun _ => ⟨rfl, in_bdd h2, fun e => h4 (by rw [e]; rfl)⟩⟩
            · have ne : 40 * v' + k ≠ 40 * iN v + iN i := by omega
              have et : updF rs.2.2.2.2.2.2 (iN v) (upd (rs.2.2.2.2.2.2 (iN v)) (iN i) d) v' k = rs.2.2.2.2.2.2 v' k := by
                by_cases ev : v' = iN v
                · rw [ev, updF_s, pk_un (fun e => ec ⟨ev, e⟩)]
                · rw [updF_n ev]
              rw [pk_un ne, pk_un ne, et]
              exact htd v' k hv' hk
          refine ⟨rfl, fun _ => ?_, hp, ⟨hnw, h40, hws, hz, htd', upd01 htl (Or.inr rfl)⟩, hb, hs⟩
          show (rwCountK _ (iN v) rs.1).toInt64 = (mdCntK (upd m.2.2.1.2 (40 * iN v + iN i) 1) (iN v) m.2.1.2.2.2.1).toInt64
          exact congrArg Int32.toInt64 ((congrArg (rwCountK _ (iN v)) hnw).trans (count_r htd' hv _ (Nat.le_refl _)))
theorem take_r {s : tMS} {t : tMT} (hr : rwsR s t rs) {v : Nat} (hv : v < 4) : ∀ k, k ≤ s.2.2.2.1 → (rwTakeK rs v k).1 = (mdTkK t s.2.2.2.2.2.2.2 v k).1 ∧ ∀ j, j < s.2.2.2.1 → (s.2.2.2.2.1 j < 2 → (rwTakeK rs v k).2 j = (mdTkK t s.2.2.2.2.2.2.2 v k).2 j) ∧ bdd ((rwTakeK rs v k).2 j) 100
  | 0, _ => by
    obtain ⟨e, h40, hws, hz, htd, htl⟩ := hr
    exact ⟨rfl, fun j hj => ⟨fun h2 => ((hws j hj).2.2.2.2 h2).2.1, (hz j (by omega)).2.2⟩⟩
  | k + 1, hk => by
    obtain ⟨i1, i2⟩ := take_r hr hv k (by omega)
    obtain ⟨e, h40, hws, hz, htd, htl⟩ := hr
    obtain ⟨a1, a2⟩ := htd v k hv (by omega)
    rw [rwTakeK, mdTkK]
    by_cases h : t.2 (40 * v + k) = 0
    · rw [if_pos (a1 h), if_pos h, if_pos h, Int32.add_zero]
      refine ⟨i1, fun j hj => ⟨fun h2 => ?_, (i2 j hj).2⟩⟩
      show _ = upd _ k _ j
      by_cases ej : j = k
      · rw [ej, pk_us]; exact (i2 k (by omega)).1 (ej ▸ h2)
      · rw [pk_un ej]; exact (i2 j hj).1 h2
    · obtain ⟨b1, b2, b3⟩ := a2 h
      have hk2 : s.2.2.2.2.1 k < 2 := by
        have := (hws k (by omega)).1
        omega
      have ek := (i2 k (by omega)).1 hk2
      rw [if_neg (by rw [b1]; exact bdd_101 b2), if_neg h, if_neg h, b1, ek]
      by_cases hq : t.1 (40 * v + k) = (mdTkK t s.2.2.2.2.2.2.2 v k).2 k
      · rw [if_pos hq, if_pos hq.symm, Int32.add_zero]
        refine ⟨i1, fun j hj => ⟨fun h2 => ?_, (i2 j hj).2⟩⟩
        show _ = upd _ k _ j
        by_cases ej : j = k
        · rw [ej, pk_us, ek, hq]
        · rw [pk_un ej]; exact (i2 j hj).1 h2
      · rw [if_neg hq, if_neg (fun e => hq e.symm)]
        refine ⟨by rw [i1], fun j hj => ⟨fun h2 => ?_, ?_⟩⟩
        · show upd _ k _ j = upd _ k _ j
          by_cases ej : j = k
          · rw [ej, pk_us, pk_us]
          · rw [pk_un ej, pk_un ej]; exact (i2 j hj).1 h2
        · show bdd (upd _ k _ j) 100
          by_cases ej : j = k
          · rw [ej, pk_us]; exact b2
          · rw [pk_un ej]; exact (i2 j hj).2
theorem lm_choose (h : LR m rs so tx ty bs) (v : Int32) (out : Nat → Int64) : (mdChoose m v).2.1 = hcd 1 9 9 (exVar v) ∧ (hcd 1 9 9 (exVar v) = 0 → xs (exVar v) out (vp_updL out 0 (rwTakeK rs (iN v) rs.1).1.toInt64) 0 = (mdChoose m v).1.toInt64) ∧ LR (mdChoose m v).2 (xs (exVar v) rs (rs.1, rs.2.1, rs.2.2.1, rs.2.2.2.1, (rwTakeK rs (iN v) rs.1).2, rs.2.2.2.2.2.1, rs.2.2.2.2.2.2)) (xs (exVar v) so (so.1, 0)) tx ty bs := by
  obtain ⟨hnw, h40⟩ := h.nw
  rw [in_var]
  unfold mdChoose
  by_cases h1 : mdIn v 0 3 = 0
  · rw [if_pos h1, if_pos h1]
    exact ⟨(hcd_A rfl).symm, thr_A (by decide), h⟩
  · rw [if_neg h1, if_neg h1]
    have hv := mdIn_lt3 h1
    obtain ⟨hp, hr, hb, hs⟩ := h
    obtain ⟨t1, t2⟩ := take_r hr hv m.2.1.2.2.2.1 (Nat.le_refl _)
    obtain ⟨e, _, hws, hz, htd, htl⟩ := hr
    rw [hnw]
    refine ⟨rfl, fun _ => ?_, hp, ⟨rfl, h40, fun k hk => ?_, fun k hk => ?_, htd, htl⟩, hb, Or.inl rfl⟩
    · show (rwTakeK rs (iN v) m.2.1.2.2.2.1).1.toInt64 = (mdTkK m.2.2.1 m.2.1.2.2.2.2.2.2.2 (iN v) m.2.1.2.2.2.1).1.toInt64
      rw [t1]
    · obtain ⟨a1, a2, a3, a4, a5⟩ := hws k hk
      exact ⟨a1, a2, a3, a4, fun hk2 => ⟨(a5 hk2).1, (t2 k hk).1 hk2, (a5 hk2).2.2⟩⟩
    · obtain ⟨b1, b2, b3⟩ := hz k (by rw [e]; exact hk)
      exact ⟨b1, b2, (t2 k hk).2⟩
theorem lm_wishes (h : LR m rs so tx ty bs) : nI rs.1 = nI m.2.1.2.2.2.1 := by rw [h.nw.1]
theorem lm_freedom (h : LR m rs so tx ty bs) : (skX so rs tx ty).2.1 + (skY so rs tx ty).2.1 = mdFree (mdSolve m.2.1 m.2.2.2.1).2.1 m.2.1.1 34 := ((settle_r h).1 m.2.2.2.1).2.2.symm
end LM
