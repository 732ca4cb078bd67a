/-! the body measured, on both sides -/
theorem i_min (x y : Int32) : iMin x y = sMin x y := by
  unfold iMin sMin
  by_cases h : y < x
  · rw [if_pos h, if_pos (fa_of_lt h).1]
  · have h1 := fa_of_nlt h
    rw [if_neg h]
    by_cases h2 : y ≤ x
    · rw [if_pos h2]
      rw [fa_le] at h1 h2
      exact (fa_eq x y).mpr (by omega)
    · rw [if_neg h2]
theorem i_max (x y : Int32) : iMax x y = sMax x y := by
  unfold iMax sMax
  by_cases h : x < y
  · rw [if_pos h, if_neg (fa_of_lt h).2.1]
  · rw [if_neg h, if_pos (fa_of_nlt h)]
theorem sd_v (sd : Nat → Int32) (t : Nat) (a b c d : Int32) : mdSidesF sd t a b c d (4 * t) = sMin a b ∧ mdSidesF sd t a b c d (4 * t + 1) = sMax a b ∧ mdSidesF sd t a b c d (4 * t + 2) = sMin c d ∧ mdSidesF sd t a b c d (4 * t + 3) = sMax c d ∧ ∀ n, (n < 4 * t ∨ 4 * t + 3 < n) → mdSidesF sd t a b c d n = sd n := by
  unfold mdSidesF
  refine ⟨?_, ?_, ?_, ?_, fun n hn => ?_⟩
  · rw [pk_un (by omega), pk_un (by omega), pk_un (by omega), pk_us]
  · rw [pk_un (by omega), pk_un (by omega), pk_us]
  · rw [pk_un (by omega), pk_us]
  · rw [pk_us]
  · rw [pk_un (by omega), pk_un (by omega), pk_un (by omega), pk_un (by omega)]
/-- the body's things, on both sides -/
def bdR (b : tBd) (B : tMB) (np : Nat) : Prop := b.1 = B.1 ∧ b.2.1 = B.2.2.2.2.1 ∧ B.2.2.2.2.1 ≤ 8 ∧ (B.1 = 0 → B.2.2.2.2.1 = 0) ∧ (¬ B.1 = 0 → (b.2.2.2.2 0).1 = B.2.1 ∧ (b.2.2.2.2 0).2.1 = B.2.2.1 ∧ (b.2.2.2.2 0).2.2.1 = B.2.2.2.1 ∧ (b.2.2.2.2 0).2.2.2.1 = none ∧ B.2.1 < np ∧ B.2.2.1 < np ∧ ¬ B.2.2.2.1 < 1 ∧ B.2.2.2.1 ≤ 50) ∧ ∀ k, k < B.2.2.2.2.1 → (b.2.2.2.2 (1 + k)).1 = B.2.2.2.2.2.1 k ∧ (b.2.2.2.2 (1 + k)).2.1 = B.2.2.2.2.2.2.1 k ∧ (b.2.2.2.2 (1 + k)).2.2.1 = B.2.2.2.2.2.2.2.1 k ∧ (b.2.2.2.2 (1 + k)).2.2.2.1 = some (iN (1 + B.2.2.2.2.2.2.2.2 k)) ∧ B.2.2.2.2.2.1 k < np ∧ B.2.2.2.2.2.2.1 k < np ∧ ¬ B.2.2.2.2.2.2.2.1 k < 1 ∧ B.2.2.2.2.2.2.2.1 k ≤ 50 ∧ (B.2.2.2.2.2.2.2.2 k = -1 ∨ iN (B.2.2.2.2.2.2.2.2 k) < k)
/-- a block as it is measured, on both sides -/
def bkR (b : tBk) (sd : Nat → Int32) (t : Nat) (bot f : Int32) : Prop := b.2.2.2.2.1 = sd (4 * t) ∧ b.2.2.2.2.2.1 = sd (4 * t + 1) ∧ b.2.2.2.2.2.2.1 = sd (4 * t + 2) ∧ b.2.2.2.2.2.2.2.1 = sd (4 * t + 3) ∧ b.2.2.2.2.2.2.2.2.1 = bot ∧ b.2.2.2.2.2.2.2.2.2 = f
def mqR (T : Nat → tBk) (B : tMB) (Q : tMQ) (k : Nat) : Prop := bkR (T 0) Q.1 8 0 (Q.2.2 8) ∧ ∀ j, j < k → bkR (T (1 + j)) Q.1 j (Q.2.1 j + B.2.2.2.2.2.2.2.1 j) (Q.2.2 j)
theorem bkR_sides {x y : tAx} {s : tMS} {V : tMV} {np : Nat} (hx : ∀ p, p < np → axPl x p = mdPl s V 0 p) (hy : ∀ p, p < np → axPl y p = mdPl s V 1 p) (b : tBk) (h1 : b.1 < np) (h2 : b.2.1 < np) (sd : Nat → Int32) (t : Nat) (bot f : Int32) : bkR (bkSet (bkBot (bkSides x y b) bot) f) (mdSidesP s V sd t b.1 b.2.1) t bot f := by
  obtain ⟨e1, e2, e3, e4, -⟩ := sd_v sd t (mdPl s V 0 b.1) (mdPl s V 0 b.2.1) (mdPl s V 1 b.1) (mdPl s V 1 b.2.1)
  unfold mdSidesP
  refine ⟨?_, ?_, ?_, ?_, rfl, rfl⟩
  · rw [e1, ← i_min, ← hx _ h1, ← hx _ h2]; rfl
  · rw [e2, ← i_max, ← hx _ h1, ← hx _ h2]; rfl
  · rw [e3, ← i_min, ← hy _ h1, ← hy _ h2]; rfl
  · rw [e4, ← i_max, ← hy _ h1, ← hy _ h2]; rfl
theorem bkR_flat {b : tBk} {sd : Nat → Int32} {t : Nat} {bot f : Int32} (h : bkR b sd t bot f) : bkFl b = mdFlat sd t := by
  obtain ⟨e1, e2, e3, e4, -, -⟩ := h
  unfold bkFl bkFlat mdFlat
  rw [e1, e2, e3, e4]
theorem bkR_lies {b c : tBk} {sd : Nat → Int32} {t u : Nat} {bot f bot' f' : Int32} (h : bkR b sd t bot f) (h' : bkR c sd u bot' f') : bkLies b c = mdLies sd t u := by
  obtain ⟨e1, e2, e3, e4, -, -⟩ := h
  obtain ⟨g1, g2, g3, g4, -, -⟩ := h'
  unfold bkLies mdLies
  rw [e1, e2, e3, e4, g1, g2, g3, g4]
theorem bkR_sd {b : tBk} {sd sd' : Nat → Int32} {t : Nat} {bot f : Int32} (h : bkR b sd t bot f) (e : ∀ n, 4 * t ≤ n → n ≤ 4 * t + 3 → sd' n = sd n) : bkR b sd' t bot f := by
  obtain ⟨e1, e2, e3, e4, e5, e6⟩ := h
  exact ⟨by rw [e1, e _ (by omega) (by omega)], by rw [e2, e _ (by omega) (by omega)], by rw [e3, e _ (by omega) (by omega)], by rw [e4, e _ (by omega) (by omega)], e5, e6⟩
theorem iN_1p {w : Int32} {k : Nat} (hk : k < 100) (h : iN w < k) : iN (1 + w) = 1 + iN w := by
  have e : (1 : Int32) + w = nI (1 + iN w) := by rw [← nI_add, ← nI_iN]; rfl
  rw [e, iN_nI (by omega)]
theorem mdFlat01 (sd : Nat → Int32) (t : Nat) : mdFlat sd t = 0 ∨ mdFlat sd t = 1 := by
  unfold mdFlat
  split
  · exact Or.inr rfl
  · split
    · exact Or.inr rfl
    · exact Or.inl rfl
theorem meas_r {x y : tAx} {s : tMS} {V : tMV} {b : tBd} {B : tMB} {np : Nat} (Q : tMQ) (hx : ∀ p, p < np → axPl x p = mdPl s V 0 p) (hy : ∀ p, p < np → axPl y p = mdPl s V 1 p) (hR : bdR b B np) (hb : ¬ B.1 = 0) : ∀ j, j ≤ B.2.2.2.2.1 → mqR (bdMeasK x y b.2.2.2.2 (j + 1)) B (mdBuildK s V B (mdSd0 s V B Q.1, Q.2.1, upd Q.2.2 8 (mdFl8 B (mdSd0 s V B Q.1))) j) j
  | 0, _ => by
    obtain ⟨-, -, -, -, h0, -⟩ := hR
    obtain ⟨a1, a2, a3, a4, a5, a6, -⟩ := h0 hb
    refine ⟨?_, fun j hj => absurd hj (Nat.not_lt_zero _)⟩
    show bkR (updB b.2.2.2.2 0 (bkMeas x y _ b.2.2.2.2 0) 0) (mdSd0 s V B Q.1) 8 0 (upd Q.2.2 8 (mdFl8 B (mdSd0 s V B Q.1)) 8)
    rw [updB_s, pk_us]
    have hm : bkMeas x y (bdMeasK x y b.2.2.2.2 0 0).2.2.1 b.2.2.2.2 0 = bkMeas0 x y (b.2.2.2.2 0) := by
      unfold bkMeas
      rw [a4]
    have hm' : bkMeas x y (b.2.2.2.2 0).2.2.1 b.2.2.2.2 0 = bkMeas0 x y (b.2.2.2.2 0) := hm
    first | rw [hm] | rw [hm']
    unfold bkMeas0 mdSd0 mdFl8
    rw [if_neg hb, if_neg hb]
    have e := bkR_sides hx hy (b.2.2.2.2 0) (by rw [a1]; exact a5) (by rw [a2]; exact a6) Q.1 8 0 (bkFl (bkSides x y (b.2.2.2.2 0)))
    have ef : bkFl (bkSides x y (b.2.2.2.2 0)) = mdFlat (mdSidesP s V Q.1 8 B.2.1 B.2.2.1) 8 := by
      have := bkR_flat e
      rw [a1, a2] at this
      exact this
    rw [a1, a2, ef] at e
    rw [ef]
    have ee : (if mdFlat (mdSidesP s V Q.1 8 B.2.1 B.2.2.1) 8 = 0 then (0 : Int32) else 1) = mdFlat (mdSidesP s V Q.1 8 B.2.1 B.2.2.1) 8 := by
      rcases mdFlat01 (mdSidesP s V Q.1 8 B.2.1 B.2.2.1) 8 with h | h
      · rw [h]; rfl
      · rw [h]; rfl
    rw [ee]
    exact e
  | j + 1, hj => by
    obtain ⟨m0, mj⟩ := meas_r Q hx hy hR hb j (by omega)
    obtain ⟨-, -, h8, -, h0, hp⟩ := hR
    obtain ⟨a1, a2, a3, a4, a5, a6, -⟩ := h0 hb
    obtain ⟨c1, c2, c3, c4, c5, c6, -, -, c7⟩ := hp j (by omega)
    have k0 := bdMeasK_keep x y b.2.2.2.2 0 (j + 1)
    have kj := bdMeasK_keep x y b.2.2.2.2 (1 + j) (j + 1)
    generalize hM : bdMeasK x y b.2.2.2.2 (j + 1) = M at m0 mj k0 kj
    generalize hQ : mdBuildK s V B (mdSd0 s V B Q.1, Q.2.1, upd Q.2.2 8 (mdFl8 B (mdSd0 s V B Q.1))) j = Qj at m0 mj
    have eM : bdMeasK x y b.2.2.2.2 (j + 1 + 1) = updB M (j + 1) (bkMeas x y (M 0).2.2.1 M (j + 1)) := by rw [bdMeasK, hM]
    have eQ : mdBuildK s V B (mdSd0 s V B Q.1, Q.2.1, upd Q.2.2 8 (mdFl8 B (mdSd0 s V B Q.1))) (j + 1) = (mdSidesP s V Qj.1 j (B.2.2.2.2.2.1 j) (B.2.2.2.2.2.2.1 j), upd Qj.2.1 j (mdBg B Qj.2.1 j), upd Qj.2.2 j (mdFl B (mdSidesP s V Qj.1 j (B.2.2.2.2.2.1 j) (B.2.2.2.2.2.2.1 j)) Qj.2.2 (mdBg B Qj.2.1 j) j)) := by rw [mdBuildK, hQ]
    rw [eM, eQ]
    obtain ⟨k1, k2, k3, k4⟩ := kj
    -- what it is in
    have houter : bkR (M (iN (1 + B.2.2.2.2.2.2.2.2 j))) Qj.1 (mdInn B j) (mdBg B Qj.2.1 j) (Qj.2.2 (mdInn B j)) ∧ (mdInn B j = 8 ∨ mdInn B j < j) := by
      by_cases hw : B.2.2.2.2.2.2.2.2 j = -1
      · have e8 : mdInn B j = 8 := by unfold mdInn; rw [if_pos hw]
        have eb : mdBg B Qj.2.1 j = 0 := by unfold mdBg; rw [e8]; rfl
        have e0 : iN (1 + B.2.2.2.2.2.2.2.2 j) = 0 := by rw [hw]; rfl
        rw [e0, e8, eb]
        exact ⟨m0, Or.inl rfl⟩
      · have hlt : iN (B.2.2.2.2.2.2.2.2 j) < j := by rcases c7 with q | q; exact absurd q hw; exact q
        have e8 : mdInn B j = iN (B.2.2.2.2.2.2.2.2 j) := by unfold mdInn; rw [if_neg hw]
        have eb : mdBg B Qj.2.1 j = Qj.2.1 (iN (B.2.2.2.2.2.2.2.2 j)) + B.2.2.2.2.2.2.2.1 (iN (B.2.2.2.2.2.2.2.2 j)) := by
          unfold mdBg
          rw [e8, if_neg (fun h => by
            have := congrArg iN h
            rw [iN_nI (by omega)] at this
            have h9 : iN (8 : Int32) = 8 := rfl
            omega)]
        rw [iN_1p (k := 9) (by omega) (by omega), e8, eb]
        exact ⟨mj _ hlt, Or.inr hlt⟩
    obtain ⟨houter, hin8⟩ := houter
    have esd : ∀ t, t ≠ j → ∀ n, 4 * t ≤ n → n ≤ 4 * t + 3 → mdSidesP s V Qj.1 j (B.2.2.2.2.2.1 j) (B.2.2.2.2.2.2.1 j) n = Qj.1 n := fun t ht n h1 h2 => by
      unfold mdSidesP
      exact (sd_v Qj.1 j _ _ _ _).2.2.2.2 n (by omega)
    have hbk : bkMeas x y (M 0).2.2.1 M (j + 1) = bkMeas1 x y (M 0).2.2.1 (M (j + 1)) (M (iN (1 + B.2.2.2.2.2.2.2.2 j))) := by
      unfold bkMeas
      rw [show j + 1 = 1 + j by omega, k4, c4]
    refine ⟨?_, fun i hi => ?_⟩
    · rw [updB_n (by omega)]
      show bkR (M 0) _ 8 0 (upd Qj.2.2 j _ 8)
      rw [pk_un (by omega)]
      exact bkR_sd m0 (esd 8 (by omega))
    · by_cases hij : i = j
      · subst hij
        rw [show 1 + i = i + 1 by omega, updB_s, hbk]
        show bkR _ _ i (upd Qj.2.1 i (mdBg B Qj.2.1 i) i + _) (upd Qj.2.2 i _ i)
        rw [pk_us, pk_us]
        unfold bkMeas1
        obtain ⟨-, -, -, -, o5, o6⟩ := id houter
        have ed : (M (i + 1)).2.2.1 = B.2.2.2.2.2.2.2.1 i := by rw [show i + 1 = 1 + i by omega, k3, c3]
        have eh : (M 0).2.2.1 = B.2.2.2.1 := by rw [k0.2.2.1, a3]
        have e1 : (M (i + 1)).1 = B.2.2.2.2.2.1 i := by rw [show i + 1 = 1 + i by omega, k1, c1]
        have e2 : (M (i + 1)).2.1 = B.2.2.2.2.2.2.1 i := by rw [show i + 1 = 1 + i by omega, k2, c2]
        rw [o5, ed, eh]
        have es := fun bot f => bkR_sides hx hy (M (i + 1)) (by rw [e1]; exact c5) (by rw [e2]; exact c6) Qj.1 i bot f
        rw [e1, e2] at es
        have efl : bkFl (bkSides x y (M (i + 1))) = mdFlat (mdSidesP s V Qj.1 i (B.2.2.2.2.2.1 i) (B.2.2.2.2.2.2.1 i)) i := (show bkFl (bkSet (bkBot (bkSides x y (M (i + 1))) 0) 0) = _ from bkR_flat (es 0 0))
        have eli : bkLies (bkSides x y (M (i + 1))) (M (iN (1 + B.2.2.2.2.2.2.2.2 i))) = mdLies (mdSidesP s V Qj.1 i (B.2.2.2.2.2.1 i) (B.2.2.2.2.2.2.1 i)) i (mdInn B i) := (show bkLies (bkSet (bkBot (bkSides x y (M (i + 1))) 0) 0) _ = _ from bkR_lies (es 0 0) (bkR_sd houter (esd _ (by omega))))
        have efail : bkFail (bkFl (bkSides x y (M (i + 1)))) (bkSides x y (M (i + 1))) (M (iN (1 + B.2.2.2.2.2.2.2.2 i))) (mdBg B Qj.2.1 i + B.2.2.2.2.2.2.2.1 i) B.2.2.2.1 = mdFl B (mdSidesP s V Qj.1 i (B.2.2.2.2.2.1 i) (B.2.2.2.2.2.2.1 i)) Qj.2.2 (mdBg B Qj.2.1 i) i := by
          unfold bkFail mdFl
          rw [efl, o6, eli]
        rw [efail]
        exact es _ _
      · rw [updB_n (by omega)]
        show bkR _ _ i (upd Qj.2.1 j (mdBg B Qj.2.1 j) i + _) (upd Qj.2.2 j _ i)
        rw [pk_un hij, pk_un hij]
        exact bkR_sd (mj i (by omega)) (esd i hij)
/-- the body measured, on both sides -/
theorem build_r {x y : tAx} {s : tMS} {V : tMV} {b : tBd} {B : tMB} {np : Nat} (Q : tMQ) (hx : ∀ p, p < np → axPl x p = mdPl s V 0 p) (hy : ∀ p, p < np → axPl y p = mdPl s V 1 p) (hR : bdR b B np) (hb : ¬ B.1 = 0) : mqR (bdMeas x y b).2.2.2.2 B (mdBuild s V B Q) B.2.2.2.2.1 := by
  have h := meas_r Q hx hy hR hb B.2.2.2.2.1 (Nat.le_refl _)
  obtain ⟨e1, e2, -⟩ := hR
  unfold bdMeas mdBuild
  rw [if_neg (by rw [e1]; exact hb), e2]
  exact h
theorem build_8 {s : tMS} {V : tMV} {B : tMB} (Q : tMQ) (hb : B.1 = 0) (hn : B.2.2.2.2.1 = 0) : (mdBuild s V B Q).2.2 8 = 1 := by
  unfold mdBuild
  rw [hn]
  show upd Q.2.2 8 (mdFl8 B (mdSd0 s V B Q.1)) 8 = 1
  rw [pk_us]
  unfold mdFl8
  rw [if_pos hb]
/-- a pocket of a base that fails, fails -/
theorem fail_all {T : Nat → tBk} {B : tMB} {s : tMS} {V : tMV} {Q : tMQ} (hp : ∀ k, k < B.2.2.2.2.1 → (B.2.2.2.2.2.2.2.2 k = -1 ∨ iN (B.2.2.2.2.2.2.2.2 k) < k)) (h8 : B.2.2.2.2.1 ≤ 8) (hf : ¬ (mdBuild s V B Q).2.2 8 = 0) : ∀ k, k < B.2.2.2.2.1 → (mdBuild s V B Q).2.2 k = 1 := by
  unfold mdBuild at hf ⊢
  generalize (mdSd0 s V B Q.1, Q.2.1, upd Q.2.2 8 (mdFl8 B (mdSd0 s V B Q.1))) = Q0 at hf ⊢
  have hstep : ∀ n, n ≤ 8 → (mdBuildK s V B Q0 n).2.2 8 = Q0.2.2 8 := by
    intro n
    induction n with
    | zero => intro _; rfl
    | succ n ih =>
      intro hn
      show upd _ n _ 8 = _
      rw [pk_un (by omega)]
      exact ih (by omega)
  rw [hstep _ h8] at hf
  have key : ∀ n, n ≤ B.2.2.2.2.1 → ∀ k, k < n → (mdBuildK s V B Q0 n).2.2 k = 1 := by
    intro n
    induction n with
    | zero => intro _ k hk; exact absurd hk (Nat.not_lt_zero _)
    | succ n ih =>
      intro hn k hk
      show upd _ n _ k = 1
      by_cases e : k = n
      · subst e
        rw [pk_us]
        have hi : ¬ (mdBuildK s V B Q0 k).2.2 (mdInn B k) = 0 := by
          unfold mdInn
          by_cases hw : B.2.2.2.2.2.2.2.2 k = -1
          · rw [if_pos hw, hstep _ (by omega)]; exact hf
          · rw [if_neg hw]
            rw [ih (by omega) _ (by rcases hp k (by omega) with q | q; exact absurd q hw; exact q)]
            decide
        unfold mdFl
        split
        · rfl
        · rfl
      · rw [pk_un e]
        exact ih (by omega) k (by omega)
  exact key _ (Nat.le_refl _)
