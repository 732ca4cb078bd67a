theorem fill_x {B : tMB} {Q : tMQ} {C : tMC} {n : Nat} {Pr : Int32 → Prop} (h : ∀ j, j < n → Q.2.2 j = 0 → Pr (Q.1 (4 * j)) ∧ Pr (Q.1 (4 * j + 1))) : ∀ k, k ≤ n → ∀ p, p < (mdFillK B Q C k).1 → Pr ((mdFillK B Q C k).2.1 p)
  | 0, _, p, hp => absurd hp (Nat.not_lt_zero _)
  | k + 1, hk, p, hp => by
    have ih := fill_x (B := B) (C := C) h k (by omega)
    by_cases hf : Q.2.2 k = 0
    · obtain ⟨h1, h2⟩ := h k (by omega) hf
      rw [mdFillK, if_pos hf] at hp ⊢
      show Pr (upd (upd _ _ _) _ _ p)
      have hp : p < (mdFillK B Q C k).1 + 2 := hp
      by_cases e : p = (mdFillK B Q C k).1 + 1
      · rw [e, pk_us]; exact h2
      · rw [pk_un e]
        by_cases e2 : p = (mdFillK B Q C k).1
        · rw [e2, pk_us]; exact h1
        · rw [pk_un e2]; exact ih p (by omega)
    · rw [mdFillK, if_neg hf] at hp ⊢
      exact ih p hp
theorem fill_y {B : tMB} {Q : tMQ} {C : tMC} {n : Nat} {Pr : Int32 → Prop} (h : ∀ j, j < n → Q.2.2 j = 0 → Pr (Q.1 (4 * j + 2)) ∧ Pr (Q.1 (4 * j + 3))) : ∀ k, k ≤ n → ∀ p, p < (mdFillK B Q C k).1 → Pr ((mdFillK B Q C k).2.2.1 p)
  | 0, _, p, hp => absurd hp (Nat.not_lt_zero _)
  | k + 1, hk, p, hp => by
    have ih := fill_y (B := B) (C := C) h k (by omega)
    by_cases hf : Q.2.2 k = 0
    · obtain ⟨h1, h2⟩ := h k (by omega) hf
      rw [mdFillK, if_pos hf] at hp ⊢
      show Pr (upd (upd _ _ _) _ _ p)
      have hp : p < (mdFillK B Q C k).1 + 2 := hp
      by_cases e : p = (mdFillK B Q C k).1 + 1
      · rw [e, pk_us]; exact h2
      · rw [pk_un e]
        by_cases e2 : p = (mdFillK B Q C k).1
        · rw [e2, pk_us]; exact h1
        · rw [pk_un e2]; exact ih p (by omega)
    · rw [mdFillK, if_neg hf] at hp ⊢
      exact ih p hp
theorem fill_z {B : tMB} {Q : tMQ} {C : tMC} {n : Nat} {Pr : Int32 → Prop} (h : ∀ j, j < n → Q.2.2 j = 0 → Pr (Q.2.1 j) ∧ Pr (Q.2.1 j + B.2.2.2.2.2.2.2.1 j)) : ∀ k, k ≤ n → ∀ p, p < (mdFillK B Q C k).1 → Pr ((mdFillK B Q C k).2.2.2 p)
  | 0, _, p, hp => absurd hp (Nat.not_lt_zero _)
  | k + 1, hk, p, hp => by
    have ih := fill_z (B := B) (C := C) h k (by omega)
    by_cases hf : Q.2.2 k = 0
    · obtain ⟨h1, h2⟩ := h k (by omega) hf
      rw [mdFillK, if_pos hf] at hp ⊢
      show Pr (upd (upd _ _ _) _ _ p)
      have hp : p < (mdFillK B Q C k).1 + 2 := hp
      by_cases e : p = (mdFillK B Q C k).1 + 1
      · rw [e, pk_us]; exact h2
      · rw [pk_un e]
        by_cases e2 : p = (mdFillK B Q C k).1
        · rw [e2, pk_us]; exact h1
        · rw [pk_un e2]; exact ih p (by omega)
    · rw [mdFillK, if_neg hf] at hp ⊢
      exact ih p hp
theorem fill_mem {B : tMB} {Q : tMQ} {C : tMC} : ∀ k j, j < k → Q.2.2 j = 0 → (∃ p, p < (mdFillK B Q C k).1 ∧ (mdFillK B Q C k).2.2.2 p = Q.2.1 j) ∧ ∃ p, p < (mdFillK B Q C k).1 ∧ (mdFillK B Q C k).2.2.2 p = Q.2.1 j + B.2.2.2.2.2.2.2.1 j
  | 0, j, hj, _ => absurd hj (Nat.not_lt_zero _)
  | k + 1, j, hj, hf => by
    have ih := fill_mem (B := B) (Q := Q) (C := C) k j
    by_cases hk : Q.2.2 k = 0
    · rw [mdFillK, if_pos hk]
      by_cases e : j = k
      · subst e
        refine ⟨⟨(mdFillK B Q C j).1, by show _ < _ + 2; omega, ?_⟩, ⟨(mdFillK B Q C j).1 + 1, by show _ < _ + 2; omega, ?_⟩⟩
        · show upd (upd _ _ _) _ _ _ = _
          rw [pk_un (by omega), pk_us]
        · show upd (upd _ _ _) _ _ _ = _
          rw [pk_us]
      · obtain ⟨⟨p, hp, hv⟩, ⟨q, hq, hw⟩⟩ := ih (by omega) hf
        refine ⟨⟨p, by show _ < _ + 2; omega, ?_⟩, ⟨q, by show _ < _ + 2; omega, ?_⟩⟩
        · show upd (upd _ _ _) _ _ _ = _
          rw [pk_un (by omega), pk_un (by omega), hv]
        · show upd (upd _ _ _) _ _ _ = _
          rw [pk_un (by omega), pk_un (by omega), hw]
    · rw [mdFillK, if_neg hk]
      have e : j ≠ k := fun e => hk (e ▸ hf)
      exact ih (by omega) hf
/-- what pockets take out, on both sides -/
theorem taken_r {b : tBd} {B : tMB} {Q : tMQ} (C : tMC) (hn : b.2.1 = B.2.2.2.2.1) (hm : ∀ j, j < B.2.2.2.2.1 → bkR (b.2.2.2.2 (1 + j)) Q.1 j (Q.2.1 j + B.2.2.2.2.2.2.2.1 j) (Q.2.2 j)) (hd : ∀ j, j < B.2.2.2.2.1 → (b.2.2.2.2 (1 + j)).2.2.1 = B.2.2.2.2.2.2.2.1 j) (hz : pkZ B Q B.2.2.2.2.1) (hs : ∀ j, j < B.2.2.2.2.1 → Q.2.2 j = 0 → (bdd (Q.1 (4 * j)) 1700 ∧ bdd (Q.1 (4 * j + 1)) 1700) ∧ (bdd (Q.1 (4 * j + 2)) 1700 ∧ bdd (Q.1 (4 * j + 3)) 1700)) : bdTaken b = mdOut B Q C := by
  obtain ⟨g1, g2, g3⟩ := gs_r (xs := b.2.2.1) (ys := b.2.2.2.1) (C := C) hm B.2.2.2.2.1 (Nat.le_refl _)
  have ax := fill_x (B := B) (C := C) (Pr := fun z => bdd z 1700) (fun j hj hf => (hs j hj hf).1) B.2.2.2.2.1 (Nat.le_refl _)
  have ay := fill_y (B := B) (C := C) (Pr := fun z => bdd z 1700) (fun j hj hf => (hs j hj hf).2) B.2.2.2.2.1 (Nat.le_refl _)
  have az := fill_z (B := B) (C := C) (Pr := fun z => iN z ≤ 50) (fun j hj hf => by
    obtain ⟨g, d, e1, e2, e3, e4⟩ := hz j hj hf
    rw [e1, e2, nI_add, iN_nI (by omega), iN_nI (by omega)]
    omega) B.2.2.2.2.1 (Nat.le_refl _)
  have am := fill_mem (B := B) (Q := Q) (C := C) B.2.2.2.2.1
  unfold bdTaken bdGs mdOut
  rw [hn, g1]
  have hmany : mdMany B Q C = (mdFillK B Q C B.2.2.2.2.1).1 := rfl
  have hcuts : mdCuts B Q C = (srtK (mdFillK B Q C B.2.2.2.2.1).2.1 (mdMany B Q C - 1), srtK (mdFillK B Q C B.2.2.2.2.1).2.2.1 (mdMany B Q C - 1), srtK (mdFillK B Q C B.2.2.2.2.1).2.2.2 (mdMany B Q C - 1)) := rfl
  rw [hcuts, hmany]
  generalize mdFillK B Q C B.2.2.2.2.1 = F at *
  generalize (gsK b.2.2.2.2 b.2.2.1 b.2.2.2.1 B.2.2.2.2.1).2.1 = xs at *
  generalize (gsK b.2.2.2.2 b.2.2.1 b.2.2.2.1 B.2.2.2.2.1).2.2 = ys at *
  obtain ⟨N, fx, fy, fz⟩ := F
  dsimp only at *
  rcases Nat.eq_zero_or_pos N with h0 | hN
  · subst h0; rfl
  have bx : ∀ p, p < N → bdd (srtK fx (N - 1) p) 1700 := fun p hp => srtK_all (Pr := fun z => bdd z 1700) fx (N - 1) (fun q hq => ax q (by omega)) p (by omega)
  have by_ : ∀ p, p < N → bdd (srtK fy (N - 1) p) 1700 := fun p hp => srtK_all (Pr := fun z => bdd z 1700) fy (N - 1) (fun q hq => ay q (by omega)) p (by omega)
  have bz : ∀ p, p < N → iN (srtK fz (N - 1) p) ≤ 50 := fun p hp => srtK_all (Pr := fun z => iN z ≤ 50) fz (N - 1) (fun q hq => az q (by omega)) p (by omega)
  have hZ : zR B Q B.2.2.2.2.1 N (srtK fz (N - 1)) (fun c => iN (srtK fz (N - 1) c)) := by
    refine ⟨fun c hc => ⟨nI_iN _, bz c hc⟩, fun c e hce he => ?_, fun j hj hf => ?_⟩
    · have h1 := srtK_srt fz (N - 1) c e hce (by omega)
      rw [nI_iN (srtK fz (N - 1) c), nI_iN (srtK fz (N - 1) e), nI_leI (by have := bz c (by omega); omega) (by have := bz e he; omega)] at h1
      exact h1
    · obtain ⟨⟨p, hp, hv⟩, ⟨q, hq, hw⟩⟩ := am j hj hf
      obtain ⟨p', hp', hv'⟩ := srtK_mem fz (N - 1) ⟨p, by omega, hv⟩
      obtain ⟨q', hq', hw'⟩ := srtK_mem fz (N - 1) ⟨q, by omega, hw⟩
      refine ⟨⟨p', by omega, by show iN (srtK fz (N - 1) p') = _; rw [hv']⟩, ⟨q', by omega, ?_⟩⟩
      show iN (srtK fz (N - 1) q') = _
      obtain ⟨g, d, e1, e2, e3, e4⟩ := hz j hj hf
      rw [hw', e1, e2, nI_add, iN_nI (by omega), iN_nI (by omega), iN_nI (by omega)]
  generalize srtK fx (N - 1) = sx at *
  generalize srtK fy (N - 1) = sy at *
  generalize srtK fz (N - 1) = sz at *
  have row : ∀ a, a + 1 < N → ∀ t k, k ≤ N - 1 → tkRow b.2.2.2.2 B.2.2.2.2.1 xs ys a t k = mdO2 B Q (sx, sy, sz) N a t k := by
    intro a ha t k
    induction k with
    | zero => intro _; rfl
    | succ k ih =>
      intro hk
      have hx : bdd (((sx, sy, sz) : tMC).1 (a + 1) - ((sx, sy, sz) : tMC).1 a) 3400 := bdd_sub (bx _ (by omega)) (bx _ (by omega)) (by omega) (by omega)
      have hy : bdd (((sx, sy, sz) : tMC).2.1 (k + 1) - ((sx, sy, sz) : tMC).2.1 k) 3400 := bdd_sub (by_ _ (by omega)) (by_ _ (by omega)) (by omega) (by omega)
      have hcol := col_r (C := (sx, sy, sz)) (n := B.2.2.2.2.1) (N := N) hz hZ rfl hx hy (mdO2 B Q (sx, sy, sz) N a t k) hN (N - 1) (by omega)
      rw [oC_last hz hZ _ _ hN] at hcol
      have ec : bdCol xs ys a k = bdCol sx sy a k := by
        unfold bdCol
        rw [g2 _ (by omega), g2 _ (by omega), g3 _ (by omega), g3 _ (by omega)]
      rw [tkRow, mdO2, ih (by omega), hcol, ec, ltK_n hm hd hz _ _ _ (Nat.le_refl _), g2 a (by omega), g3 k (by omega), bitc_n (oN_lt hz _ _)]
  have all : ∀ k, k ≤ N - 1 → tkAll b.2.2.2.2 B.2.2.2.2.1 xs ys N k = mdO1 B Q (sx, sy, sz) N k := by
    intro k
    induction k with
    | zero => intro _; rfl
    | succ k ih =>
      intro hk
      rw [tkAll, mdO1, ih (by omega), row k (by omega) _ _ (Nat.le_refl _)]
  exact all _ (Nat.le_refl _)
/-! different depths, on both sides -/
def dN (B : tMB) (Q : tMQ) : Nat → Nat
  | 0 => 0
  | k + 1 => if Q.2.2 k = 0 then dN B Q k ||| 2 ^ iN (B.2.2.2.2.2.2.2.1 k) else dN B Q k
theorem ddK_n {T : Nat → tBk} {B : tMB} {Q : tMQ} {n : Nat} (hf : ∀ j, j < n → (T (1 + j)).2.2.2.2.2.2.2.2.2 = Q.2.2 j) (hd : ∀ j, j < n → (T (1 + j)).2.2.1 = B.2.2.2.2.2.2.2.1 j) (hz : pkZ B Q n) : ∀ k, k ≤ n → ddK T k = lN (dN B Q k)
  | 0, _ => rfl
  | k + 1, hk => by
    have ih := ddK_n hf hd hz k (by omega)
    rw [ddK, dN, hf k (by omega), hd k (by omega), ih]
    by_cases h : Q.2.2 k = 0
    · obtain ⟨g, d, e1, e2, e3, e4⟩ := hz k (by omega) h
      rw [if_pos h, if_pos h, e2, show (1 : Int64) = lN 1 from rfl, wb_shl 1 (by omega), fb_orL, Nat.one_mul, iN_nI (by omega)]
    · rw [if_neg h, if_neg h]
theorem dN_bit {B : tMB} {Q : tMQ} (z : Nat) : ∀ k, (dN B Q k).testBit z = true ↔ ∃ j, j < k ∧ Q.2.2 j = 0 ∧ iN (B.2.2.2.2.2.2.2.1 j) = z
  | 0 => by
    rw [dN, Nat.zero_testBit]
    exact ⟨fun h => absurd h (by decide), fun ⟨j, hj, _⟩ => absurd hj (Nat.not_lt_zero _)⟩
  | k + 1 => by
    have ih := dN_bit (B := B) (Q := Q) z k
    have up : (∃ j, j < k + 1 ∧ Q.2.2 j = 0 ∧ iN (B.2.2.2.2.2.2.2.1 j) = z) ↔ ((∃ j, j < k ∧ Q.2.2 j = 0 ∧ iN (B.2.2.2.2.2.2.2.1 j) = z) ∨ (Q.2.2 k = 0 ∧ iN (B.2.2.2.2.2.2.2.1 k) = z)) := by
      constructor
      · rintro ⟨j, hj, h⟩
        by_cases e : j = k
        · subst e; exact Or.inr h
        · exact Or.inl ⟨j, by omega, h⟩
      · rintro (⟨j, hj, h⟩ | h)
        · exact ⟨j, by omega, h⟩
        · exact ⟨k, by omega, h⟩
    rw [up, ← ih, dN]
    by_cases hf : Q.2.2 k = 0
    · rw [if_pos hf, Nat.testBit_or, Nat.testBit_two_pow]
      simp only [Bool.or_eq_true, decide_eq_true_eq, hf, true_and]
    · rw [if_neg hf]
      exact ⟨Or.inl, fun h => h.elim id (fun h => absurd h.1 hf)⟩
theorem fuK_v (fl de : Nat → Int32) (k : Nat) : ∀ m, ((mdFuK fl de k m = 0 ∨ mdFuK fl de k m = 1) ∧ (mdFuK fl de k m = 1 ↔ fl k = 0 ∧ ∀ j, j < m → fl j = 0 → ¬ de j = de k))
  | 0 => by
    rw [mdFuK]
    by_cases h : fl k = 0
    · rw [if_pos h]; exact ⟨Or.inr rfl, ⟨fun _ => ⟨h, fun j hj => absurd hj (Nat.not_lt_zero _)⟩, fun _ => rfl⟩⟩
    · rw [if_neg h]; exact ⟨Or.inl rfl, ⟨fun h => absurd h (by decide), fun h2 => absurd h2.1 h⟩⟩
  | m + 1 => by
    obtain ⟨q1, q2⟩ := fuK_v fl de k m
    rw [mdFuK]
    by_cases h0 : mdFuK fl de k m = 0
    · rw [if_pos h0]
      refine ⟨Or.inl rfl, ⟨fun h => absurd h (by decide), fun ⟨a1, a2⟩ => ?_⟩⟩
      have := q2.mpr ⟨a1, fun j hj => a2 j (by omega)⟩
      rw [h0] at this
      exact absurd this (by decide)
    · have h1 : mdFuK fl de k m = 1 := by rcases q1 with q | q; exact absurd q h0; exact q
      obtain ⟨a1, a2⟩ := q2.mp h1
      rw [if_neg h0]
      by_cases hf : fl m = 0
      · rw [if_pos hf]
        by_cases he : de m = de k
        · rw [if_pos he]
          exact ⟨Or.inl rfl, ⟨fun h => absurd h (by decide), fun ⟨_, a⟩ => absurd he (a m (by omega) hf)⟩⟩
        · rw [if_neg he]
          refine ⟨Or.inr rfl, ⟨fun _ => ⟨a1, fun j hj hfj => ?_⟩, fun _ => rfl⟩⟩
          by_cases e : j = m
          · subst e; exact he
          · exact a2 j (by omega) hfj
      · rw [if_neg hf]
        refine ⟨Or.inr rfl, ⟨fun _ => ⟨a1, fun j hj hfj => ?_⟩, fun _ => rfl⟩⟩
        by_cases e : j = m
        · subst e; exact absurd hfj hf
        · exact a2 j (by omega) hfj
theorem dN_lt {B : tMB} {Q : tMQ} {n : Nat} (hz : pkZ B Q n) {k : Nat} (hk : k ≤ n) : dN B Q k < 2 ^ 64 := by
  refine Nat.lt_pow_two_of_testBit _ fun i hi => ?_
  cases e : (dN B Q k).testBit i with
  | false => rfl
  | true =>
    obtain ⟨j, hj, hf, hv⟩ := (dN_bit i k).mp e
    obtain ⟨g, d, h1, h2, h3, h4⟩ := hz j (by omega) hf
    rw [h2, iN_nI (by omega)] at hv
    omega
theorem un_r {B : tMB} {Q : tMQ} {n : Nat} (hz : pkZ B Q n) : ∀ k, k ≤ n → mdUn Q.2.2 B.2.2.2.2.2.2.2.1 k = nI (pop (dN B Q k))
  | 0, _ => by
    have : pop (dN B Q 0) = 0 := fb_ct_zero.mpr fun i _ => Nat.zero_testBit i
    rw [this]
    rfl
  | k + 1, hk => by
    have ih := un_r hz k (by omega)
    obtain ⟨q1, q2⟩ := fuK_v Q.2.2 B.2.2.2.2.2.2.2.1 k k
    rw [mdUn, dN, ih]
    by_cases hf : Q.2.2 k = 0
    · obtain ⟨g, d, e1, e2, e3, e4⟩ := hz k (by omega) hf
      rw [if_pos hf]
      have hd : iN (B.2.2.2.2.2.2.2.1 k) = d := by rw [e2, iN_nI (by omega)]
      have hpop : pop (dN B Q k ||| 2 ^ d) + (if (dN B Q k).testBit d then 1 else 0) = pop (dN B Q k) + 1 := by
        have h := fb_ct_upd (fun i => (dN B Q k).testBit i) true (i := d) (n := 64) (by omega)
        rw [if_pos rfl] at h
        rw [← show fb_ct (fun j => if j = d then true else (dN B Q k).testBit j) 64 = pop (dN B Q k ||| 2 ^ d) from fb_ct_cong fun j _ => by
          rw [Nat.testBit_or, Nat.testBit_two_pow]
          by_cases e : j = d
          · subst e; simp
          · simp [e, Ne.symm e]]
        exact h
      rw [hd]
      by_cases hb : (dN B Q k).testBit d = true
      · have h0 : mdFuK Q.2.2 B.2.2.2.2.2.2.2.1 k k = 0 := by
          rcases q1 with q | q
          · exact q
          · obtain ⟨-, a2⟩ := q2.mp q
            obtain ⟨j, hj, hfj, hv⟩ := (dN_bit d k).mp hb
            refine absurd ?_ (a2 j hj hfj)
            rw [nI_iN (B.2.2.2.2.2.2.2.1 j), hv, e2]
        rw [if_pos h0]
        rw [if_pos hb] at hpop
        rw [show pop (dN B Q k ||| 2 ^ d) = pop (dN B Q k) by omega, Int32.add_zero]
      · have h1 : ¬ mdFuK Q.2.2 B.2.2.2.2.2.2.2.1 k k = 0 := by
          rw [q2.mpr ⟨hf, fun j hj hfj he => hb ((dN_bit d k).mpr ⟨j, hj, hfj, by rw [he, hd]⟩)⟩]
          decide
        rw [if_neg h1]
        rw [if_neg hb] at hpop
        rw [show pop (dN B Q k ||| 2 ^ d) = pop (dN B Q k) + 1 by omega, ← nI_succ]
    · rw [if_neg hf]
      have h0 : mdFuK Q.2.2 B.2.2.2.2.2.2.2.1 k k = 0 := by
        rcases q1 with q | q
        · exact q
        · exact absurd (q2.mp q).1 hf
      rw [if_pos h0, Int32.add_zero]
theorem depths_r {T : Nat → tBk} {B : tMB} {Q : tMQ} {n : Nat} (hf : ∀ j, j < n → (T (1 + j)).2.2.2.2.2.2.2.2.2 = Q.2.2 j) (hd : ∀ j, j < n → (T (1 + j)).2.2.1 = B.2.2.2.2.2.2.2.1 j) (hz : pkZ B Q n) : bitc (ddK T n) = mdUn Q.2.2 B.2.2.2.2.2.2.2.1 n := by
  rw [ddK_n hf hd hz n (Nat.le_refl _), bitc_n (dN_lt hz (Nat.le_refl _)), un_r hz n (Nat.le_refl _)]
/-! what building gives of the pockets -/
theorem i_nat {x : Int32} (h1 : ¬ x < 1) (h2 : x ≤ 50) : ∃ d : Nat, x = nI d ∧ 1 ≤ d ∧ d ≤ 50 := by
  rw [fa_lt] at h1
  rw [fa_le] at h2
  have e1 : (1 : Int32).toInt = 1 := by decide
  have e50 : (50 : Int32).toInt = 50 := by decide
  refine ⟨x.toInt.toNat, ?_, by omega, by omega⟩
  apply (fa_eq _ _).mpr
  rw [nI_toInt (by omega)]
  omega
theorem i_natz {x : Int32} (h1 : ¬ x < 1) (h2 : x ≤ 50) : iN x ≤ 50 := by
  obtain ⟨d, e, h3, h4⟩ := i_nat h1 h2
  rw [e, iN_nI (by omega)]
  exact h4
theorem build_z {s : tMS} {V : tMV} {B : tMB} (Q0 : tMQ) (hp : ∀ k, k < B.2.2.2.2.1 → ¬ B.2.2.2.2.2.2.2.1 k < 1 ∧ B.2.2.2.2.2.2.2.1 k ≤ 50 ∧ (B.2.2.2.2.2.2.2.2 k = -1 ∨ iN (B.2.2.2.2.2.2.2.2 k) < k)) (h8 : B.2.2.2.2.1 ≤ 8) (hh : ¬ B.2.2.2.1 < 1 ∧ B.2.2.2.1 ≤ 50) : ∀ k, k ≤ B.2.2.2.2.1 → pkZ B (mdBuildK s V B Q0 k) k
  | 0, _ => fun j hj => absurd hj (Nat.not_lt_zero _)
  | k + 1, hk => by
    have ih := build_z (s := s) (V := V) Q0 hp h8 hh k (by omega)
    obtain ⟨h, hhe, h1, h2⟩ := i_nat hh.1 hh.2
    intro j hj
    rw [mdBuildK]
    show upd _ k _ j = 0 → ∃ g d : Nat, upd _ k _ j = nI g ∧ _
    by_cases e : j = k
    · subst e
      rw [pk_us, pk_us]
      intro hf
      unfold mdFl at hf
      split at hf
      · rename_i q1
        split at hf
        · rename_i q2
          split at hf
          · exact absurd hf (by decide)
          · split at hf
            · rename_i q3
              obtain ⟨d, hd, d1, d2⟩ := i_nat (hp j (by omega)).1 (hp j (by omega)).2.1
              have hg : ∃ g : Nat, mdBg B (mdBuildK s V B Q0 j).2.1 j = nI g ∧ g ≤ 50 := by
                unfold mdBg
                split
                · exact ⟨0, rfl, by omega⟩
                · rename_i q4
                  have hin : mdInn B j < j := by
                    unfold mdInn at q4 ⊢
                    split
                    · rename_i q5; rw [if_pos q5] at q4; exact absurd rfl q4
                    · rename_i q5
                      rcases (hp j (by omega)).2.2 with q | q
                      · exact absurd q q5
                      · exact q
                  obtain ⟨g, d', a1, a2, a3, a4⟩ := ih _ hin q2
                  exact ⟨g + d', by rw [a1, a2, nI_add], a4⟩
              obtain ⟨g, hg1, hg2⟩ := hg
              refine ⟨g, d, hg1, hd, d1, ?_⟩
              rw [hg1, hd, hhe, nI_add, fa_lt, nI_toInt (by omega), nI_toInt (by omega)] at q3
              omega
            · exact absurd hf (by decide)
        · exact absurd hf (by decide)
      · exact absurd hf (by decide)
    · rw [pk_un e, pk_un e]
      exact ih j (by omega)
theorem bdd_min {a b : Int32} {c : Int} (ha : bdd a c) (hb : bdd b c) : bdd (sMin a b) c := by
  unfold sMin
  split
  · exact hb
  · exact ha
theorem bdd_max {a b : Int32} {c : Int} (ha : bdd a c) (hb : bdd b c) : bdd (sMax a b) c := by
  unfold sMax
  split
  · exact ha
  · exact hb
theorem build_s {s : tMS} {V : tMV} {B : tMB} (Q0 : tMQ) {np : Nat} (hx : ∀ p, p < np → bdd (mdPl s V 0 p) 1700) (hy : ∀ p, p < np → bdd (mdPl s V 1 p) 1700) (hp : ∀ k, k < B.2.2.2.2.1 → B.2.2.2.2.2.1 k < np ∧ B.2.2.2.2.2.2.1 k < np) : ∀ k, k ≤ B.2.2.2.2.1 → ∀ j, j < k → (bdd ((mdBuildK s V B Q0 k).1 (4 * j)) 1700 ∧ bdd ((mdBuildK s V B Q0 k).1 (4 * j + 1)) 1700) ∧ (bdd ((mdBuildK s V B Q0 k).1 (4 * j + 2)) 1700 ∧ bdd ((mdBuildK s V B Q0 k).1 (4 * j + 3)) 1700)
  | 0, _, j, hj => absurd hj (Nat.not_lt_zero _)
  | k + 1, hk, j, hj => by
    have ih := build_s Q0 hx hy hp k (by omega)
    obtain ⟨p1, p2⟩ := hp k (by omega)
    rw [mdBuildK]
    show (bdd (mdSidesP s V _ k _ _ _) 1700 ∧ bdd (mdSidesP s V _ k _ _ _) 1700) ∧ (bdd (mdSidesP s V _ k _ _ _) 1700 ∧ bdd (mdSidesP s V _ k _ _ _) 1700)
    unfold mdSidesP
    obtain ⟨e1, e2, e3, e4, e5⟩ := sd_v (mdBuildK s V B Q0 k).1 k (mdPl s V 0 (B.2.2.2.2.2.1 k)) (mdPl s V 0 (B.2.2.2.2.2.2.1 k)) (mdPl s V 1 (B.2.2.2.2.2.1 k)) (mdPl s V 1 (B.2.2.2.2.2.2.1 k))
    by_cases e : j = k
    · subst e
      rw [e1, e2, e3, e4]
      exact ⟨⟨bdd_min (hx _ p1) (hx _ p2), bdd_max (hx _ p1) (hx _ p2)⟩, ⟨bdd_min (hy _ p1) (hy _ p2), bdd_max (hy _ p1) (hy _ p2)⟩⟩
    · rw [e5 _ (by omega), e5 _ (by omega), e5 _ (by omega), e5 _ (by omega)]
      exact ih j (by omega)
