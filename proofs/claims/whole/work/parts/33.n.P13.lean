/-! each call, on both sides: the body -/
section LM
variable {m : tMd} {rs : tRw} {so : tOb} {tx ty : tAx} {bs : tBd}
theorem base_R {s : tMS} {t : tMT} {B : tMB} (h : LRs s t B rs so tx ty bs) {i j : Nat} {d : Int32} (hi : i < s.1) (hj : j < s.1) (hd : ¬ d < 1 ∧ d ≤ 50) : LRs s t (1, i, j, d, B.2.2.2.2) rs so tx ty (skBase bs i j d) := by
  obtain ⟨hp, hr, ⟨⟨c1, c2, c3, c4, c5, c6⟩, b2, b3, -, -⟩, hs⟩ := h
  have h16 := hp.2.1
  refine ⟨hp, hr, ⟨⟨rfl, c2, c3, fun h0 => absurd h0 (by show ¬ (1 : Int32) = 0; decide), fun _ => ?_, fun k hk => ?_⟩, bdOk_base b2 (by omega) (by omega), fun q => ?_, (by show i ≤ 15; omega), (by show j ≤ 15; omega)⟩, hs⟩
  · show (updB bs.2.2.2.2 0 _ 0).1 = _ ∧ (updB bs.2.2.2.2 0 _ 0).2.1 = _ ∧ (updB bs.2.2.2.2 0 _ 0).2.2.1 = _ ∧ (updB bs.2.2.2.2 0 _ 0).2.2.2.1 = _ ∧ _
    rw [updB_s]
    exact ⟨rfl, rfl, rfl, rfl, hi, hj, hd⟩
  · have e : (skBase bs i j d).2.2.2.2 (1 + k) = bs.2.2.2.2 (1 + k) := updB_n (by omega)
    rw [e]
    exact c6 k hk
  · by_cases e : q = 0
    · subst e
      have e0 : ((skBase bs i j d).2.2.2.2 0).2.2.2.2.2.2.2.2.2 = (bs.2.2.2.2 0).2.2.2.2.2.2.2.2.2 := by
        unfold skBase
        simp only [updB]
        rfl
      rw [e0]
      exact b3 0
    · have e1 : (skBase bs i j d).2.2.2.2 q = bs.2.2.2.2 q := updB_n e
      rw [e1]
      exact b3 q
theorem lm_setBase (h : LR m rs so tx ty bs) (i j d : Int32) (out : Nat → Int64) : (mdSetB m i j d).2.1 = hcd 2 9 1 (exBase so.1 i j d) ∧ (hcd 2 9 1 (exBase so.1 i j d) = 0 → xs (exBase so.1 i j d) out (vp_updL out 0 (b2l (if ((skB so rs tx ty (skBase bs (iN i) (iN j) d)).2.2.2.2 0).2.2.2.2.2.2.2.2.2 = 0 then 1 else 0))) 0 = b2l (mdSetB m i j d).1) ∧ LR (mdSetB m i j d).2 (xs (exBase so.1 i j d) rs (rwSt rs (skS so rs tx ty))) (xs (exBase so.1 i j d) so (so.1, skF so)) (xs (exBase so.1 i j d) tx (skX so rs tx ty)) (xs (exBase so.1 i j d) ty (skY so rs tx ty)) (xs (exBase so.1 i j d) bs (skB so rs tx ty (skBase bs (iN i) (iN j) d))) := by
  obtain ⟨hnp, h16⟩ := h.np
  have ex : exBase so.1 i j d = if mdIn i 0 (nI m.2.1.1 - 1) = 0 then some "java/lang/IndexOutOfBoundsException" else if mdIn j 0 (nI m.2.1.1 - 1) = 0 then some "java/lang/IndexOutOfBoundsException" else if mdIn d 1 50 = 0 then some "java/lang/IllegalArgumentException" else none := by
    unfold exBase
    rw [in_depth, hnp, in_in (by omega), in_in (by omega)]
    split
    · rfl
    · split
      · rfl
      · rfl
  rw [ex]
  unfold mdSetB
  by_cases h1 : mdIn i 0 (nI m.2.1.1 - 1) = 0
  · have e : mdSbT m i j d = 1 := by unfold mdSbT; rw [if_pos h1]
    rw [e, if_pos h1, if_neg (by decide)]
    exact ⟨(hcd_B rfl).symm, thr_B (by decide), h⟩
  · by_cases h2 : mdIn j 0 (nI m.2.1.1 - 1) = 0
    · have e : mdSbT m i j d = 1 := by unfold mdSbT; rw [if_neg h1, if_pos h2]
      rw [e, if_neg h1, if_pos h2, if_neg (by decide)]
      exact ⟨(hcd_B rfl).symm, thr_B (by decide), h⟩
    · by_cases h3 : mdIn d 1 50 = 0
      · have e : mdSbT m i j d = 2 := by unfold mdSbT; rw [if_neg h1, if_neg h2, if_pos h3]
        rw [e, if_neg h1, if_neg h2, if_pos h3, if_neg (by decide)]
        exact ⟨(hcd_A rfl).symm, thr_A (by decide), h⟩
      · have e : mdSbT m i j d = 0 := by unfold mdSbT; rw [if_neg h1, if_neg h2, if_neg h3]
        have eth : (mdSetS m i j d).1 = 0 := e
        rw [e, if_neg h1, if_neg h2, if_neg h3, if_pos (by decide)]
        have hR := base_R h (mdIn_lt (by omega) h1) (mdIn_lt (by omega) h2) (in_d50 h3)
        have hb := base_r hR m.2.2.2.1 m.2.2.2.2.2.1 (by show ¬ (1 : Int32) = 0; decide)
        refine ⟨eth, fun _ => ?_, LRs.meas _ _ (LRs.set hR)⟩
        show b2l (if ((skB so rs tx ty (skBase bs (iN i) (iN j) d)).2.2.2.2 0).2.2.2.2.2.2.2.2.2 = 0 then 1 else 0) = b2l (if (mdSetS m i j d).2.2.2.2.2.1.2.2 8 = 0 then 1 else 0)
        rw [hb]
        rfl
theorem in_pock {n : Nat} (hn : n ≤ 1000) (t : Int32) : (if t = -1 then none else exIn n t) = if mdIn t (-1) (nI n - 1) = 0 then some "java/lang/IndexOutOfBoundsException" else none := by
  by_cases h1 : t = -1
  · rw [if_pos h1]
    have : ¬ mdIn t (-1) (nI n - 1) = 0 := by
      unfold mdIn
      rw [h1, if_neg (by decide), if_neg (fun h => by
        rw [fa_lt] at h
        rcases n with _ | n
        · have a0 : (nI 0 - 1).toInt = -1 := by decide
          have a1 : (-1 : Int32).toInt = -1 := by decide
          omega
        · rw [nI_pred, nI_toInt (by omega)] at h
          have a1 : (-1 : Int32).toInt = -1 := by decide
          omega)]
      decide
    rw [if_neg this]
  · rw [if_neg h1, in_in hn]
    unfold mdIn
    by_cases h2 : t < 0
    · have h3 : t < -1 := by
        rw [fa_lt] at h2 ⊢
        rw [fa_eq] at h1
        have a1 : (-1 : Int32).toInt = -1 := by decide
        have a0 : (0 : Int32).toInt = 0 := by decide
        omega
      rw [if_pos h2, if_pos h3]
    · have h3 : ¬ t < -1 := by
        rw [fa_lt] at h2 ⊢
        have a1 : (-1 : Int32).toInt = -1 := by decide
        have a0 : (0 : Int32).toInt = 0 := by decide
        omega
      rw [if_neg h2, if_neg h3]
theorem in_pock_lt {n : Nat} (hn : n ≤ 1000) {t : Int32} (h : ¬ mdIn t (-1) (nI n - 1) = 0) : t = -1 ∨ iN t < n := by
  by_cases h1 : t = -1
  · exact Or.inl h1
  · refine Or.inr (mdIn_lt hn fun h0 => ?_)
    have e := in_pock hn t
    rw [if_neg h1, if_neg h, in_in hn, if_pos h0] at e
    cases e
theorem pock_R {s : tMS} {t : tMT} {B : tMB} (h : LRs s t B rs so tx ty bs) {i j : Nat} {d q : Int32} (hi : i < s.1) (hj : j < s.1) (hd : ¬ d < 1 ∧ d ≤ 50) (hq : q = -1 ∨ iN q < B.2.2.2.2.1) (hb : ¬ B.1 = 0) (h8 : B.2.2.2.2.1 < 8) : LRs s t (B.1, B.2.1, B.2.2.1, B.2.2.2.1, B.2.2.2.2.1 + 1, updN B.2.2.2.2.2.1 B.2.2.2.2.1 i, updN B.2.2.2.2.2.2.1 B.2.2.2.2.1 j, upd B.2.2.2.2.2.2.2.1 B.2.2.2.2.1 d, upd B.2.2.2.2.2.2.2.2 B.2.2.2.2.1 q) rs so tx ty (skPock bs i j d q) := by
  obtain ⟨hp, hr, ⟨⟨c1, c2, c3, c4, c5, c6⟩, b2, b3, b4⟩, hs⟩ := h
  have h16 := hp.2.1
  have hout : iN (1 + q) < 1 + B.2.2.2.2.1 := by
    rcases hq with e | e
    · rw [e]
      have : iN (1 + -1) = 0 := rfl
      omega
    · rw [iN_1p (k := 9) (by omega) (by omega)]
      omega
  have ene : ∀ z, z ≠ 1 + B.2.2.2.2.1 → (skPock bs i j d q).2.2.2.2 z = bs.2.2.2.2 z := fun z hz => by
    show updB bs.2.2.2.2 (1 + bs.2.1) _ z = _
    rw [c2, updB_n hz]
  have enew : ((skPock bs i j d q).2.2.2.2 (1 + B.2.2.2.2.1)).1 = i ∧ ((skPock bs i j d q).2.2.2.2 (1 + B.2.2.2.2.1)).2.1 = j ∧ ((skPock bs i j d q).2.2.2.2 (1 + B.2.2.2.2.1)).2.2.1 = d ∧ ((skPock bs i j d q).2.2.2.2 (1 + B.2.2.2.2.1)).2.2.2.1 = some (iN (1 + q)) ∧ ((skPock bs i j d q).2.2.2.2 (1 + B.2.2.2.2.1)).2.2.2.2.2.2.2.2.2 = (bs.2.2.2.2 (1 + B.2.2.2.2.1)).2.2.2.2.2.2.2.2.2 := by
    show (updB bs.2.2.2.2 (1 + bs.2.1) _ (1 + B.2.2.2.2.1)).1 = _ ∧ (updB bs.2.2.2.2 (1 + bs.2.1) _ (1 + B.2.2.2.2.1)).2.1 = _ ∧ (updB bs.2.2.2.2 (1 + bs.2.1) _ (1 + B.2.2.2.2.1)).2.2.1 = _ ∧ (updB bs.2.2.2.2 (1 + bs.2.1) _ (1 + B.2.2.2.2.1)).2.2.2.1 = _ ∧ (updB bs.2.2.2.2 (1 + bs.2.1) _ (1 + B.2.2.2.2.1)).2.2.2.2.2.2.2.2.2 = _
    rw [c2, updB_s]
    exact ⟨rfl, rfl, rfl, rfl, rfl⟩
  obtain ⟨n1, n2, n3, n4, n5⟩ := enew
  refine ⟨hp, hr, ⟨⟨c1, ?_, h8, fun h0 => absurd h0 hb, fun hb' => ?_, fun k hk => ?_⟩, fun z hz => ?_, fun z => ?_, b4⟩, hs⟩
  · show bs.2.1 + 1 = B.2.2.2.2.1 + 1
    rw [c2]
  · rw [ene 0 (by omega)]
    exact c5 hb
  · show _ = updN B.2.2.2.2.2.1 B.2.2.2.2.1 i k ∧ _ = updN B.2.2.2.2.2.2.1 B.2.2.2.2.1 j k ∧ _ = upd B.2.2.2.2.2.2.2.1 B.2.2.2.2.1 d k ∧ _ = some (iN (1 + upd B.2.2.2.2.2.2.2.2 B.2.2.2.2.1 q k)) ∧ updN B.2.2.2.2.2.1 B.2.2.2.2.1 i k < s.1 ∧ updN B.2.2.2.2.2.2.1 B.2.2.2.2.1 j k < s.1 ∧ ¬ upd B.2.2.2.2.2.2.2.1 B.2.2.2.2.1 d k < 1 ∧ upd B.2.2.2.2.2.2.2.1 B.2.2.2.2.1 d k ≤ 50 ∧ (upd B.2.2.2.2.2.2.2.2 B.2.2.2.2.1 q k = -1 ∨ iN (upd B.2.2.2.2.2.2.2.2 B.2.2.2.2.1 q k) < k)
    by_cases ek : k = B.2.2.2.2.1
    · rw [ek, updN_s, updN_s, pk_us, pk_us]
      exact ⟨n1, n2, n3, n4, hi, hj, hd.1, hd.2, hq⟩
    · have hk : k < B.2.2.2.2.1 + 1 := hk
      rw [updN_n ek, updN_n ek, pk_un ek, pk_un ek, ene (1 + k) (by omega)]
      exact c6 k (by omega)
  · by_cases ez : z = 1 + B.2.2.2.2.1
    · rw [ez, n1, n2, n4]
      exact ⟨by omega, by omega, fun j0 hj0 => by cases hj0; exact hout⟩
    · rw [ene z ez]
      exact b2 z hz
  · by_cases ez : z = 1 + B.2.2.2.2.1
    · rw [ez, n5]; exact b3 _
    · rw [ene z ez]; exact b3 z
theorem lm_pocket (h : LR m rs so tx ty bs) (i j d q : Int32) (out : Nat → Int64) : (mdPocket m i j d q).2.1 = hcd 2 3 1 (exPock so.1 bs.2.1 bs.1 i j d q) ∧ (hcd 2 3 1 (exPock so.1 bs.2.1 bs.1 i j d q) = 0 → xs (exPock so.1 bs.2.1 bs.1 i j d q) out (vp_updL out 0 (nI bs.2.1).toInt64) 0 = (mdPocket m i j d q).1.toInt64) ∧ LR (mdPocket m i j d q).2 rs so tx ty (xs (exPock so.1 bs.2.1 bs.1 i j d q) bs (skPock bs (iN i) (iN j) d q)) := by
  obtain ⟨hnp, h16⟩ := h.np
  have hb1 : bs.1 = m.2.2.2.2.1.1 := h.2.2.1.1.1
  have hb2 : bs.2.1 = m.2.2.2.2.1.2.2.2.2.1 := h.2.2.1.1.2.1
  have h8 : m.2.2.2.2.1.2.2.2.2.1 ≤ 8 := h.2.2.1.1.2.2.1
  have ex : exPock so.1 bs.2.1 bs.1 i j d q = if mdIn i 0 (nI m.2.1.1 - 1) = 0 then some "java/lang/IndexOutOfBoundsException" else if mdIn j 0 (nI m.2.1.1 - 1) = 0 then some "java/lang/IndexOutOfBoundsException" else if mdIn q (-1) (nI m.2.2.2.2.1.2.2.2.2.1 - 1) = 0 then some "java/lang/IndexOutOfBoundsException" else if mdIn d 1 50 = 0 then some "java/lang/IllegalArgumentException" else if m.2.2.2.2.1.1 = 0 then some "java/lang/IllegalStateException" else if nI m.2.2.2.2.1.2.2.2.2.1 = 8 then some "java/lang/IllegalStateException" else none := by
    unfold exPock
    rw [hnp, hb1, hb2, in_depth, in_in (by omega), in_in (by omega), in_pock (by omega), show (8 : Int32) = nI 8 from rfl, in_full h8 (by omega)]
    split
    · rfl
    · split
      · rfl
      · split
        · rfl
        · split
          · rfl
          · rfl
  rw [ex]
  unfold mdPocket
  by_cases h1 : mdIn i 0 (nI m.2.1.1 - 1) = 0
  · rw [if_pos h1, if_pos h1]
    exact ⟨(hcd_B rfl).symm, thr_B (by decide), h⟩
  · rw [if_neg h1, if_neg h1]
    by_cases h2 : mdIn j 0 (nI m.2.1.1 - 1) = 0
    · rw [if_pos h2, if_pos h2]
      exact ⟨(hcd_B rfl).symm, thr_B (by decide), h⟩
    · rw [if_neg h2, if_neg h2]
      by_cases h3 : mdIn q (-1) (nI m.2.2.2.2.1.2.2.2.2.1 - 1) = 0
      · rw [if_pos h3, if_pos h3]
        exact ⟨(hcd_B rfl).symm, thr_B (by decide), h⟩
      · rw [if_neg h3, if_neg h3]
        by_cases h4 : mdIn d 1 50 = 0
        · rw [if_pos h4, if_pos h4]
          exact ⟨(hcd_A rfl).symm, thr_A (by decide), h⟩
        · rw [if_neg h4, if_neg h4]
          by_cases h5 : m.2.2.2.2.1.1 = 0
          · rw [if_pos h5, if_pos h5]
            exact ⟨(hcd_S rfl).symm, thr_S (by decide), h⟩
          · rw [if_neg h5, if_neg h5]
            by_cases h6 : nI m.2.2.2.2.1.2.2.2.2.1 = 8
            · rw [if_pos h6, if_pos h6]
              exact ⟨(hcd_S rfl).symm, thr_S (by decide), h⟩
            · rw [if_neg h6, if_neg h6]
              have hlt : m.2.2.2.2.1.2.2.2.2.1 < 8 := by
                have : ¬ m.2.2.2.2.1.2.2.2.2.1 = 8 := fun e => h6 (by rw [e]; rfl)
                omega
              exact ⟨rfl, fun _ => by rw [hb2]; rfl, pock_R h (mdIn_lt (by omega) h1) (mdIn_lt (by omega) h2) (in_d50 h4) (in_pock_lt (by omega) h3) h5 hlt⟩
theorem lm_fails (h : LR m rs so tx ty bs) (i : Int32) (out : Nat → Int64) : (mdFails m i).2.1 = hcd 9 9 1 (exIn bs.2.1 i) ∧ (hcd 9 9 1 (exIn bs.2.1 i) = 0 → xs (exIn bs.2.1 i) out (vp_updL out 0 (b2l ((skB so rs tx ty bs).2.2.2.2 (iN i + 1)).2.2.2.2.2.2.2.2.2)) 0 = b2l (mdFails m i).1) ∧ LR (mdFails m i).2 (xs (exIn bs.2.1 i) rs (rwSt rs (skS so rs tx ty))) (xs (exIn bs.2.1 i) so (so.1, skF so)) (xs (exIn bs.2.1 i) tx (skX so rs tx ty)) (xs (exIn bs.2.1 i) ty (skY so rs tx ty)) (xs (exIn bs.2.1 i) bs (skB so rs tx ty bs)) := by
  have hb2 : bs.2.1 = m.2.2.2.2.1.2.2.2.2.1 := h.2.2.1.1.2.1
  have h8 : m.2.2.2.2.1.2.2.2.2.1 ≤ 8 := h.2.2.1.1.2.2.1
  have ex : exIn bs.2.1 i = if mdIn i 0 (nI m.2.2.2.2.1.2.2.2.2.1 - 1) = 0 then some "java/lang/IndexOutOfBoundsException" else none := by rw [hb2, in_in (by omega)]
  rw [ex]
  unfold mdFails
  by_cases h1 : mdIn i 0 (nI m.2.2.2.2.1.2.2.2.2.1 - 1) = 0
  · have e : mdFaT m i = 1 := by unfold mdFaT; rw [if_pos h1]
    rw [e, if_pos h1, if_neg (by decide)]
    exact ⟨(hcd_B rfl).symm, thr_B (by decide), h⟩
  · have e : mdFaT m i = 0 := by unfold mdFaT; rw [if_neg h1]
    rw [e, if_neg h1, if_pos (by decide)]
    have hi := mdIn_lt (by omega) h1
    refine ⟨rfl, fun _ => ?_, LRs.meas _ _ (LRs.set h)⟩
    show b2l ((skB so rs tx ty bs).2.2.2.2 (iN i + 1)).2.2.2.2.2.2.2.2.2 = b2l ((mdBuild m.2.1 (mdSolve m.2.1 m.2.2.2.1) m.2.2.2.2.1 m.2.2.2.2.2.1).2.2 (iN i))
    rw [fails_r h m.2.2.2.1 m.2.2.2.2.2.1 hi]
theorem lm_volume (h : LR m rs so tx ty bs) : skVol (skB so rs tx ty bs) = (mdVolume m).1 ∧ LR (mdVolume m).2 (rwSt rs (skS so rs tx ty)) (so.1, skF so) (skX so rs tx ty) (skY so rs tx ty) (skT (skB so rs tx ty bs)) := by
  obtain ⟨v1, v2, -⟩ := volume_r h m.2.2.2.1 m.2.2.2.2.2.1 m.2.2.2.2.2.2
  have hR : LRs m.2.1 m.2.2.1 m.2.2.2.2.1 (rwSt rs (skS so rs tx ty)) (so.1, skF so) (skX so rs tx ty) (skY so rs tx ty) (skT (skB so rs tx ty bs)) := LRs.rowsT (LRs.meas _ _ (LRs.set h))
  unfold skVol
  rw [v1, v2]
  unfold mdVolume
  have e8 : (mdBuilt m 0).2.2.2.2.2.1 = mdBuild m.2.1 (mdSolve m.2.1 m.2.2.2.1) m.2.2.2.2.1 m.2.2.2.2.2.1 := rfl
  have eB : (mdBuilt m 0).2.2.2.2.1 = m.2.2.2.2.1 := rfl
  have eC : (mdBuilt m 0).2.2.2.2.2.2 = m.2.2.2.2.2.2 := rfl
  rw [e8, eB, eC]
  by_cases hf : (mdBuild m.2.1 (mdSolve m.2.1 m.2.2.2.1) m.2.2.2.2.1 m.2.2.2.2.2.1).2.2 8 = 0
  · rw [if_pos hf, if_pos hf, if_pos hf]
    exact ⟨rfl, hR⟩
  · rw [if_neg hf, if_neg hf, if_neg hf]
    exact ⟨show (0 : Int32) - 0 = 0 by decide, hR⟩
theorem lm_price (h : LR m rs so tx ty bs) : skPri (skB so rs tx ty bs) = (mdPrice m).1 ∧ LR (mdPrice m).2 (rwSt rs (skS so rs tx ty)) (so.1, skF so) (skX so rs tx ty) (skY so rs tx ty) (skT (skB so rs tx ty bs)) := by
  obtain ⟨v1, v2, v3⟩ := volume_r h m.2.2.2.1 m.2.2.2.2.2.1 m.2.2.2.2.2.2
  have hR : LRs m.2.1 m.2.2.1 m.2.2.2.2.1 (rwSt rs (skS so rs tx ty)) (so.1, skF so) (skX so rs tx ty) (skY so rs tx ty) (skT (skB so rs tx ty bs)) := LRs.rowsT (LRs.meas _ _ (LRs.set h))
  unfold skPri
  rw [v1, v2, v3]
  unfold mdPrice
  have e8 : (mdBuilt m 0).2.2.2.2.2.1 = mdBuild m.2.1 (mdSolve m.2.1 m.2.2.2.1) m.2.2.2.2.1 m.2.2.2.2.2.1 := rfl
  have eB : (mdBuilt m 0).2.2.2.2.1 = m.2.2.2.2.1 := rfl
  have eC : (mdBuilt m 0).2.2.2.2.2.2 = m.2.2.2.2.2.2 := rfl
  rw [e8, eB, eC]
  by_cases hf : (mdBuild m.2.1 (mdSolve m.2.1 m.2.2.2.1) m.2.2.2.2.1 m.2.2.2.2.2.1).2.2 8 = 0
  · rw [if_pos hf, if_pos hf, if_pos hf, if_pos hf, Int32.one_mul]
    exact ⟨rfl, hR⟩
  · rw [if_neg hf, if_neg hf, if_neg hf, if_neg hf]
    exact ⟨show (2 : Int32) * 0 + 1 * 0 + 100 * 0 = 0 by decide, hR⟩
end LM
