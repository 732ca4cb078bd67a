/-! the two sides of a run -/
def Sset (s : tMS) (st : Nat → Int32) (tx ty : tAx) : Prop := ∀ V, (∀ k, k < s.2.2.2.1 → st k = (mdSolve s V).1 k) ∧ (∀ p, p < s.1 → axPl tx p = mdPl s (mdSolve s V) 0 p ∧ axPl ty p = mdPl s (mdSolve s V) 1 p ∧ bdd (axPl tx p) 1700 ∧ bdd (axPl ty p) 1700) ∧ mdFree (mdSolve s V).2.1 s.1 34 = tx.2.1 + ty.2.1
def tdR (rs : tRw) (s : tMS) (t : tMT) : Prop := ∀ v k, v < 4 → k < s.2.2.2.1 → (t.2 (40 * v + k) = 0 → rs.2.2.2.2.2.2 v k = 101) ∧ (¬ t.2 (40 * v + k) = 0 → rs.2.2.2.2.2.2 v k = t.1 (40 * v + k) ∧ bdd (t.1 (40 * v + k)) 100 ∧ ¬ s.2.2.2.2.1 k = 2)
def ptR (s : tMS) (so : tOb) (tx ty : tAx) : Prop := so.1 = s.1 ∧ s.1 ≤ 16 ∧ tx.1 = s.2.1 ∧ ty.1 = s.2.2.1 ∧ hB tx ∧ hB ty
def rwsR (s : tMS) (t : tMT) (rs : tRw) : Prop := rs.1 = s.2.2.2.1 ∧ s.2.2.2.1 ≤ 40 ∧ wsR rs s ∧ szB rs ∧ tdR rs s t ∧ mdTl01 t
def bdyR (s : tMS) (B : tMB) (bs : tBd) : Prop := bdR bs B s.1 ∧ bdOk bs.2.2.2.2 ∧ bd01 bs.2.2.2.2 ∧ B.2.1 ≤ 15 ∧ B.2.2.1 ≤ 15
def LRs (s : tMS) (t : tMT) (B : tMB) (rs : tRw) (so : tOb) (tx ty : tAx) (bs : tBd) : Prop := ptR s so tx ty ∧ rwsR s t rs ∧ bdyR s B bs ∧ (so.2 = 0 ∨ Sset s rs.2.2.2.2.2.1 tx ty)
def LR (m : tMd) (rs : tRw) (so : tOb) (tx ty : tAx) (bs : tBd) : Prop := LRs m.2.1 m.2.2.1 m.2.2.2.2.1 rs so tx ty bs
def xs {α : Type} (ex : Option String) (a b : α) : α := match ex with
  | none => b
  | some _ => a
theorem thr_A {a b c : Int32} {P : Prop} (ha : ¬ a = 0) (h : hcd a b c (some "java/lang/IllegalArgumentException") = 0) : P := by rw [hcd_A rfl] at h; exact absurd h ha
theorem thr_S {a b c : Int32} {P : Prop} (ha : ¬ b = 0) (h : hcd a b c (some "java/lang/IllegalStateException") = 0) : P := by rw [hcd_S rfl] at h; exact absurd h ha
theorem thr_B {a b c : Int32} {P : Prop} (ha : ¬ c = 0) (h : hcd a b c (some "java/lang/IndexOutOfBoundsException") = 0) : P := by rw [hcd_B rfl] at h; exact absurd h ha
section LAWS
variable {s : tMS} {t : tMT} {B : tMB} {m : tMd} {rs : tRw} {so : tOb} {tx ty : tAx} {bs : tBd}
theorem LRs.mdOk (h : LRs s t B rs so tx ty bs) : mdOk s := by
  obtain ⟨⟨-, h16, -⟩, ⟨-, h40, hw, -⟩, -, -⟩ := h
  refine ⟨h16, h40, fun w hw' => ?_⟩
  obtain ⟨a1, a2, a3, a4, a5⟩ := hw w hw'
  exact ⟨a1, by omega, fun h2 => by have := (a5 h2).2.2; omega⟩
theorem LRs.skOk (h : LRs s t B rs so tx ty bs) : skOk so rs := by
  obtain ⟨⟨e, h16, -⟩, ⟨e2, h40, -, hz, -⟩, -, -⟩ := h
  exact ⟨by rw [e]; exact h16, by rw [e2]; exact h40, fun k hk => ⟨(hz k hk).1, (hz k hk).2.1⟩⟩
theorem LRs.mdBok (h : LRs s t B rs so tx ty bs) : mdBok B := by
  obtain ⟨⟨-, h16, -⟩, -, ⟨⟨-, -, h8, -, -, hp⟩, -, -, b1, b2⟩, -⟩ := h
  refine ⟨b1, b2, h8, fun k hk => ?_⟩
  obtain ⟨-, -, -, -, c5, c6, -, -, c7⟩ := hp k hk
  exact ⟨by omega, by omega, c7⟩
/-- solved, on both sides -/
theorem settle_r (h : LRs s t B rs so tx ty bs) : Sset s (skS so rs tx ty) (skX so rs tx ty) (skY so rs tx ty) ∧ (skX so rs tx ty).1 = tx.1 ∧ (skY so rs tx ty).1 = ty.1 := by
  obtain ⟨⟨e, h16, h1, h2, hb1, hb2⟩, ⟨e2, h40, hw, hz, -⟩, -, hs⟩ := h
  unfold skS skX skY
  by_cases h0 : so.2 = 0
  · rw [if_pos h0, if_pos h0, if_pos h0]
    obtain ⟨g1, g2⟩ := skK_h rs tx ty rs.1
    obtain ⟨B1, B2⟩ := skK_B hz hb1 hb2 rs.1 (Nat.le_refl _)
    have q1 := (axPinK_v (skK rs tx ty rs.1).2.1 so.1 (by omega)).1
    have q2 := (axPinK_v (skK rs tx ty rs.1).2.2 so.1 (by omega)).1
    refine ⟨fun V => ?_, q1.trans g1, q2.trans g2⟩
    obtain ⟨s1, s2, s3⟩ := solve_r V hw h1 h2 s.2.2.2.1 (Nat.le_refl _)
    rw [e2, e]
    rw [e2] at B1 B2 g1 g2
    refine ⟨s1, fun p hp => ⟨place_r s2 (Or.inl rfl) ?_ hp h16, place_r s3 (Or.inr rfl) ?_ hp h16, pin_B B1 ?_ hp h16, pin_B B2 ?_ hp h16⟩, freedom_r s2 s3 h16⟩
    · rw [g1, h1]; rfl
    · rw [g2, h2]; rfl
    · intro i hi; rw [g1]; exact hb1 i hi
    · intro i hi; rw [g2]; exact hb2 i hi
  · rw [if_neg h0, if_neg h0, if_neg h0]
    exact ⟨hs.resolve_left h0, rfl, rfl⟩
theorem LRs.set (h : LRs s t B rs so tx ty bs) : LRs s t B (rwSt rs (skS so rs tx ty)) (so.1, skF so) (skX so rs tx ty) (skY so rs tx ty) bs := by
  obtain ⟨k1, k2, k3⟩ := settle_r h
  obtain ⟨⟨e, h16, h1, h2, hb1, hb2⟩, ⟨e2, h40, hw, hz, htd, htl⟩, hb, hs⟩ := h
  exact ⟨⟨e, h16, k2.trans h1, k3.trans h2, fun i hi => by rw [k2]; exact hb1 i hi, fun i hi => by rw [k3]; exact hb2 i hi⟩, ⟨e2, h40, hw, hz, htd, htl⟩, hb, Or.inr k1⟩
/-- the body's part -/
theorem bdR_meas {x y : tAx} {b : tBd} {np : Nat} (h : bdR b B np) : bdR (bdMeas x y b) B np := by
  obtain ⟨e1, e2, h8, hz, h0, hp⟩ := h
  have kp : ∀ i, bkKeep (b.2.2.2.2 i) ((bdMeas x y b).2.2.2.2 i) := by
    intro i
    unfold bdMeas
    split
    · exact ⟨rfl, rfl, rfl, rfl⟩
    · exact bdMeasK_keep x y b.2.2.2.2 i _
  have k1 : (bdMeas x y b).1 = b.1 := by unfold bdMeas; split <;> rfl
  refine ⟨k1.trans e1, bdMeas_n.trans e2, h8, hz, fun hb => ?_, fun k hk => ?_⟩
  · obtain ⟨c1, c2, c3, c4⟩ := kp 0
    obtain ⟨a1, a2, a3, a4, a5⟩ := h0 hb
    exact ⟨c1.trans a1, c2.trans a2, c3.trans a3, c4.trans a4, a5⟩
  · obtain ⟨c1, c2, c3, c4⟩ := kp (1 + k)
    obtain ⟨a1, a2, a3, a4, a5⟩ := hp k hk
    exact ⟨c1.trans a1, c2.trans a2, c3.trans a3, c4.trans a4, a5⟩
theorem bdOk_meas {x y : tAx} {b : tBd} (h : bdOk b.2.2.2.2) : bdOk (bdMeas x y b).2.2.2.2 := by
  unfold bdMeas
  split
  · exact h
  · exact bdOk_measK h _
theorem LRs.meas (x y : tAx) (h : LRs s t B rs so tx ty bs) : LRs s t B rs so tx ty (bdMeas x y bs) := by
  obtain ⟨h1, h2, ⟨b1, b2, b3, b4⟩, h4⟩ := h
  exact ⟨h1, h2, ⟨bdR_meas b1, bdOk_meas b2, bdMeas01 b3, b4⟩, h4⟩
theorem LRs.rowsT (h : LRs s t B rs so tx ty bs) : LRs s t B rs so tx ty (skT bs) := h
/-- what is seen of the body that is measured -/
theorem body_r (h : LRs s t B rs so tx ty bs) (V : tMV) (Q : tMQ) (hb : ¬ B.1 = 0) : mqR (skB so rs tx ty bs).2.2.2.2 B (mdBuild s (mdSolve s V) B Q) B.2.2.2.2.1 ∧ pkZ B (mdBuild s (mdSolve s V) B Q) B.2.2.2.2.1 ∧ (∀ j, j < B.2.2.2.2.1 → (mdBuild s (mdSolve s V) B Q).2.2 j = 0 → (bdd ((mdBuild s (mdSolve s V) B Q).1 (4 * j)) 1700 ∧ bdd ((mdBuild s (mdSolve s V) B Q).1 (4 * j + 1)) 1700) ∧ (bdd ((mdBuild s (mdSolve s V) B Q).1 (4 * j + 2)) 1700 ∧ bdd ((mdBuild s (mdSolve s V) B Q).1 (4 * j + 3)) 1700)) := by
  obtain ⟨k1, -, -⟩ := settle_r h
  obtain ⟨-, k2, -⟩ := k1 V
  obtain ⟨-, -, ⟨hR, -⟩, -⟩ := h
  have hR' := hR
  obtain ⟨-, -, h8, -, h0, hp⟩ := hR'
  obtain ⟨-, -, -, -, -, -, d1, d2⟩ := h0 hb
  refine ⟨build_r Q (fun p hp => (k2 p hp).1) (fun p hp => (k2 p hp).2.1) hR hb, ?_, fun j hj _ => ?_⟩
  · exact build_z _ (fun k hk => ⟨(hp k hk).2.2.2.2.2.2.1, (hp k hk).2.2.2.2.2.2.2.1, (hp k hk).2.2.2.2.2.2.2.2⟩) h8 ⟨d1, d2⟩ _ (Nat.le_refl _)
  · exact build_s (np := s.1) _ (fun p hp => by rw [← (k2 p hp).1]; exact (k2 p hp).2.2.1) (fun p hp => by rw [← (k2 p hp).2.1]; exact (k2 p hp).2.2.2) (fun k hk => ⟨(hp k hk).2.2.2.2.1, (hp k hk).2.2.2.2.2.1⟩) _ (Nat.le_refl _) j hj
theorem body_keep (h : LRs s t B rs so tx ty bs) : (skB so rs tx ty bs).1 = B.1 ∧ (skB so rs tx ty bs).2.1 = B.2.2.2.2.1 ∧ (¬ B.1 = 0 → ((skB so rs tx ty bs).2.2.2.2 0).2.2.1 = B.2.2.2.1) ∧ ∀ j, j < B.2.2.2.2.1 → ((skB so rs tx ty bs).2.2.2.2 (1 + j)).2.2.1 = B.2.2.2.2.2.2.2.1 j := by
  obtain ⟨-, -, ⟨hR, -⟩, -⟩ := h
  obtain ⟨e1, e2, -, -, h0, hp⟩ := bdR_meas (x := skX so rs tx ty) (y := skY so rs tx ty) hR
  exact ⟨e1, e2, fun hb => (h0 hb).2.2.1, fun j hj => (hp j hj).2.2.1⟩
theorem fails_r (h : LRs s t B rs so tx ty bs) (V : tMV) (Q : tMQ) {k : Nat} (hk : k < B.2.2.2.2.1) : ((skB so rs tx ty bs).2.2.2.2 (k + 1)).2.2.2.2.2.2.2.2.2 = (mdBuild s (mdSolve s V) B Q).2.2 k := by
  have hb : ¬ B.1 = 0 := fun h0 => by
    obtain ⟨-, -, ⟨⟨-, -, -, hz, -⟩, -⟩, -⟩ := h
    rw [hz h0] at hk
    exact absurd hk (Nat.not_lt_zero _)
  have := ((body_r h V Q hb).1.2 k hk).2.2.2.2.2
  rw [Nat.add_comm]
  exact this
theorem base_r (h : LRs s t B rs so tx ty bs) (V : tMV) (Q : tMQ) (hb : ¬ B.1 = 0) : ((skB so rs tx ty bs).2.2.2.2 0).2.2.2.2.2.2.2.2.2 = (mdBuild s (mdSolve s V) B Q).2.2 8 := (body_r h V Q hb).1.1.2.2.2.2.2
theorem bitc_0 : bitc 0 = 0 := by
  have := bitc_n (n := 0) (by decide)
  rw [show lN 0 = 0 from rfl] at this
  rw [this, show pop 0 = 0 from fb_ct_zero.mpr fun i _ => Nat.zero_testBit i]
  rfl
theorem ddK_0 {T : Nat → tBk} : ∀ n, (∀ j, j < n → (T (1 + j)).2.2.2.2.2.2.2.2.2 = 1) → ddK T n = 0
  | 0, _ => rfl
  | n + 1, h => by
    rw [ddK, if_neg (by rw [h n (by omega)]; decide)]
    exact ddK_0 n fun j hj => h j (by omega)
theorem gsK_0 {T : Nat → tBk} {xs ys : Nat → Int32} : ∀ n, (∀ j, j < n → (T (1 + j)).2.2.2.2.2.2.2.2.2 = 1) → gsK T xs ys n = (0, xs, ys)
  | 0, _ => rfl
  | n + 1, h => by
    rw [gsK, if_neg (by rw [h n (by omega)]; decide)]
    exact gsK_0 n fun j hj => h j (by omega)
theorem volume_r (h : LRs s t B rs so tx ty bs) (V : tMV) (Q : tMQ) (C : tMC) : bdWhole (skB so rs tx ty bs) = (if (mdBuild s (mdSolve s V) B Q).2.2 8 = 0 then mdWhole B (mdBuild s (mdSolve s V) B Q) else 0) ∧ bdTaken (skB so rs tx ty bs) = (if (mdBuild s (mdSolve s V) B Q).2.2 8 = 0 then mdOut B (mdBuild s (mdSolve s V) B Q) C else 0) ∧ bitc (ddK (skB so rs tx ty bs).2.2.2.2 (skB so rs tx ty bs).2.1) = (if (mdBuild s (mdSolve s V) B Q).2.2 8 = 0 then mdUn (mdBuild s (mdSolve s V) B Q).2.2 B.2.2.2.2.2.2.2.1 B.2.2.2.2.1 else 0) := by
  obtain ⟨e1, e2, e3, e4⟩ := body_keep h
  have hR := h.2.2.1.1
  obtain ⟨-, -, h8, hz0, h0, hp⟩ := hR
  by_cases hb : B.1 = 0
  · have hn := hz0 hb
    rw [if_neg (by rw [build_8 Q hb hn]; decide), if_neg (by rw [build_8 Q hb hn]; decide), if_neg (by rw [build_8 Q hb hn]; decide)]
    refine ⟨?_, ?_, ?_⟩
    · unfold bdWhole; rw [e1, if_pos hb]
    · unfold bdTaken bdGs; rw [e2, hn]; rfl
    · rw [e2, hn]; exact bitc_0
  · obtain ⟨⟨m0, mj⟩, hz, hs⟩ := body_r h V Q hb
    have hf0 := m0.2.2.2.2.2
    by_cases hf : (mdBuild s (mdSolve s V) B Q).2.2 8 = 0
    · rw [if_pos hf, if_pos hf, if_pos hf]
      refine ⟨?_, taken_r C e2 mj e4 hz hs, ?_⟩
      · obtain ⟨q1, q2, q3, q4, -, q6⟩ := m0
        unfold bdWhole
        rw [e1, if_neg hb, q6, if_pos hf]
        unfold bkCells mdWhole
        rw [q1, q2, q3, q4, e3 hb]
      · rw [e2]
        exact depths_r (fun j hj => (mj j hj).2.2.2.2.2) e4 hz
    · rw [if_neg hf, if_neg hf, if_neg hf]
      have hall := fail_all (T := bs.2.2.2.2) (s := s) (V := mdSolve s V) (Q := Q) (fun k hk => (hp k hk).2.2.2.2.2.2.2.2) h8 hf
      have hfa : ∀ j, j < B.2.2.2.2.1 → ((skB so rs tx ty bs).2.2.2.2 (1 + j)).2.2.2.2.2.2.2.2.2 = 1 := fun j hj => by rw [(mj j hj).2.2.2.2.2, hall j hj]
      refine ⟨?_, ?_, ?_⟩
      · unfold bdWhole
        rw [e1, if_neg hb, hf0, if_neg hf]
      · unfold bdTaken bdGs
        rw [e2, gsK_0 _ hfa]
        rfl
      · rw [e2, ddK_0 _ hfa]; exact bitc_0
end LAWS
