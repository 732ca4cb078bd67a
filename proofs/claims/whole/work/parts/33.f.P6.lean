/-! the sides in their order, on both sides -/
theorem swB_o : ∀ (k : Nat) (f : Nat → Int32) (p : Nat), k < p → swB k f p = f p
  | 0, f, p, h => rfl
  | k + 1, f, p, h => by
    rw [swB]
    split
    · rfl
    · rw [swB_o k _ p (by omega), pk_un (by omega), pk_un (by omega)]
theorem insA_o (v : Int32) : ∀ (k : Nat) (f : Nat → Int32) (p : Nat), k < p → insA v k f p = f p
  | 0, f, p, h => by rw [insA, pk_un (by omega)]
  | k + 1, f, p, h => by
    rw [insA]
    split
    · rw [pk_un (by omega)]
    · rw [insA_o v k _ p (by omega), pk_un (by omega)]
theorem swB_ins (v : Int32) : ∀ (k : Nat) (f a : Nat → Int32), f k = v → (∀ p, p < k → f p = a p) → ∀ p, p ≤ k → swB k f p = insA v k a p
  | 0, f, a, h1, h2, p, hp => by
    have e : p = 0 := by omega
    subst e
    rw [swB, insA, pk_us, h1]
  | k + 1, f, a, h1, h2, p, hp => by
    rw [swB, insA, h1, h2 k (by omega)]
    by_cases hle : a k ≤ v
    · rw [if_pos hle, if_pos hle]
      by_cases e : p = k + 1
      · subst e; rw [pk_us, h1]
      · rw [pk_un e]; exact h2 p (by omega)
    · rw [if_neg hle, if_neg hle]
      by_cases e : p = k + 1
      · subst e
        rw [swB_o k _ _ (by omega), insA_o v k _ _ (by omega), pk_us, pk_un (by omega), pk_us]
      · refine swB_ins v k _ _ pk_us (fun q hq => ?_) p (by omega)
        rw [pk_un (by omega), pk_un (by omega), pk_un (by omega)]
        exact h2 q (by omega)
theorem swB_cong : ∀ (k : Nat) (f g : Nat → Int32), (∀ p, p ≤ k → f p = g p) → ∀ p, p ≤ k → swB k f p = swB k g p
  | 0, f, g, h, p, hp => h p hp
  | k + 1, f, g, h, p, hp => by
    rw [swB, swB, h k (by omega), h (k + 1) (by omega)]
    by_cases hle : g k ≤ g (k + 1)
    · rw [if_pos hle, if_pos hle]; exact h p hp
    · rw [if_neg hle, if_neg hle]
      by_cases e : p = k + 1
      · subst e
        rw [swB_o k _ _ (by omega), swB_o k _ _ (by omega), pk_un (by omega), pk_us, pk_un (by omega), pk_us]
      · refine swB_cong k _ _ (fun q hq => ?_) p (by omega)
        by_cases e2 : q = k
        · subst e2; rw [pk_us, pk_us]
        · rw [pk_un e2, pk_un (by omega), pk_un e2, pk_un (by omega)]
          exact h q (by omega)
theorem srtK_o (f : Nat → Int32) : ∀ (i p : Nat), i < p → srtK f i p = f p
  | 0, p, h => rfl
  | i + 1, p, h => by rw [srtK, swB_o _ _ _ h, srtK_o f i p (by omega)]
theorem srtK_cong (f g : Nat → Int32) : ∀ (i : Nat), (∀ p, p ≤ i → f p = g p) → ∀ p, p ≤ i → srtK f i p = srtK g i p
  | 0, h, p, hp => h p hp
  | i + 1, h, p, hp => by
    rw [srtK, srtK]
    refine swB_cong _ _ _ (fun q hq => ?_) p hp
    by_cases e : q = i + 1
    · subst e; rw [srtK_o _ _ _ (by omega), srtK_o _ _ _ (by omega)]; exact h _ (by omega)
    · exact srtK_cong f g i (fun q hq => h q (by omega)) q (by omega)
theorem srtK_s (f : Nat → Int32) (n : Nat) : srtK f n = swB n (srtK f (n - 1)) := by
  cases n with
  | zero => rfl
  | succ n => rfl
/-- two more in their order -/
theorem srt_two {f a : Nat → Int32} {n : Nat} {l r : Int32} (h : ∀ p, p < n → a p = srtK f (n - 1) p) : ∀ p, p < n + 2 → insA r (n + 1) (insA l n a) p = srtK (upd (upd f n l) (n + 1) r) (n + 1) p := by
  have A0 : ∀ p, p < n → srtK (upd (upd f n l) (n + 1) r) (n - 1) p = a p := fun p hp => by
    rw [h p hp]
    refine srtK_cong _ _ (n - 1) (fun q hq => ?_) p (by omega)
    rw [pk_un (by omega), pk_un (by omega)]
  have A1 : srtK (upd (upd f n l) (n + 1) r) (n - 1) n = l := by
    cases n with
    | zero => show upd _ _ _ 0 = l; rw [pk_un (by omega), pk_us]
    | succ n => rw [srtK_o _ _ _ (by omega), pk_un (by omega), pk_us]
  have A2 : ∀ p, p < n + 1 → srtK (upd (upd f n l) (n + 1) r) n p = insA l n a p := fun p hp => by
    rw [srtK_s]
    exact swB_ins l n _ _ A1 A0 p (by omega)
  have A3 : srtK (upd (upd f n l) (n + 1) r) n (n + 1) = r := by rw [srtK_o _ _ _ (by omega), pk_us]
  intro p hp
  rw [srtK]
  exact (swB_ins r (n + 1) _ _ A3 A2 p (by omega)).symm
theorem gs_r {T : Nat → tBk} {B : tMB} {Q : tMQ} {C : tMC} {xs ys : Nat → Int32} {n : Nat} (hm : ∀ j, j < n → bkR (T (1 + j)) Q.1 j (Q.2.1 j + B.2.2.2.2.2.2.2.1 j) (Q.2.2 j)) : ∀ k, k ≤ n → (gsK T xs ys k).1 = (mdFillK B Q C k).1 ∧ (∀ p, p < (mdFillK B Q C k).1 → (gsK T xs ys k).2.1 p = srtK (mdFillK B Q C k).2.1 ((mdFillK B Q C k).1 - 1) p) ∧ (∀ p, p < (mdFillK B Q C k).1 → (gsK T xs ys k).2.2 p = srtK (mdFillK B Q C k).2.2.1 ((mdFillK B Q C k).1 - 1) p)
  | 0, _ => ⟨rfl, fun p h => absurd h (Nat.not_lt_zero _), fun p h => absurd h (Nat.not_lt_zero _)⟩
  | k + 1, hk => by
    obtain ⟨e1, e2, e3⟩ := gs_r (xs := xs) (ys := ys) (C := C) hm k (by omega)
    obtain ⟨b1, b2, b3, b4, -, b6⟩ := hm k (by omega)
    rw [gsK, mdFillK, b6]
    by_cases h : Q.2.2 k = 0
    · rw [if_pos h, if_pos h, e1, b1, b2, b3, b4]
      exact ⟨rfl, srt_two e2, srt_two e3⟩
    · rw [if_neg h, if_neg h]
      exact ⟨e1, e2, e3⟩
/-! what ordering keeps -/
theorem swB_all {Pr : Int32 → Prop} : ∀ (k : Nat) (f : Nat → Int32), (∀ p, p ≤ k → Pr (f p)) → ∀ p, p ≤ k → Pr (swB k f p)
  | 0, f, h, p, hp => h p hp
  | k + 1, f, h, p, hp => by
    rw [swB]
    split
    · exact h p hp
    · by_cases e : p = k + 1
      · subst e
        rw [swB_o _ _ _ (by omega), pk_un (by omega), pk_us]
        exact h k (by omega)
      · refine swB_all k _ (fun q hq => ?_) p (by omega)
        by_cases e2 : q = k
        · subst e2; rw [pk_us]; exact h _ (by omega)
        · rw [pk_un e2, pk_un (by omega)]; exact h q (by omega)
theorem srtK_all {Pr : Int32 → Prop} (f : Nat → Int32) : ∀ i, (∀ p, p ≤ i → Pr (f p)) → ∀ p, p ≤ i → Pr (srtK f i p)
  | 0, h, p, hp => h p hp
  | i + 1, h, p, hp => by
    rw [srtK]
    refine swB_all _ _ (fun q hq => ?_) p hp
    by_cases e : q = i + 1
    · subst e; rw [srtK_o _ _ _ (by omega)]; exact h _ (by omega)
    · exact srtK_all f i (fun q hq => h q (by omega)) q (by omega)
theorem swB_mem {v : Int32} : ∀ (k : Nat) (f : Nat → Int32), (∃ p, p ≤ k ∧ f p = v) → ∃ p, p ≤ k ∧ swB k f p = v
  | 0, f, h => h
  | k + 1, f, ⟨p, hp, hv⟩ => by
    rw [swB]
    split
    · exact ⟨p, hp, hv⟩
    · by_cases e : p = k
      · subst e
        refine ⟨p + 1, by omega, ?_⟩
        rw [swB_o _ _ _ (by omega), pk_un (by omega), pk_us, hv]
      · have hx : ∃ q, q ≤ k ∧ upd (upd f (k + 1) (f k)) k (f (k + 1)) q = v := by
          by_cases e2 : p = k + 1
          · subst e2; exact ⟨k, Nat.le_refl _, by rw [pk_us, hv]⟩
          · exact ⟨p, by omega, by rw [pk_un e, pk_un e2, hv]⟩
        obtain ⟨q, hq, hqv⟩ := swB_mem k _ hx
        exact ⟨q, by omega, hqv⟩
theorem srtK_mem {v : Int32} (f : Nat → Int32) : ∀ i, (∃ p, p ≤ i ∧ f p = v) → ∃ p, p ≤ i ∧ srtK f i p = v
  | 0, h => h
  | i + 1, ⟨p, hp, hv⟩ => by
    rw [srtK]
    refine swB_mem _ _ ?_
    by_cases e : p = i + 1
    · subst e; exact ⟨i + 1, Nat.le_refl _, by rw [srtK_o _ _ _ (by omega), hv]⟩
    · obtain ⟨q, hq, hqv⟩ := srtK_mem f i ⟨p, by omega, hv⟩
      exact ⟨q, by omega, hqv⟩
theorem i_le_trans {a b c : Int32} (h1 : a ≤ b) (h2 : b ≤ c) : a ≤ c := by
  rw [fa_le] at *
  omega
theorem i_le_refl (a : Int32) : a ≤ a := by rw [fa_le]; omega
/-- the step of ordering -/
theorem swB_srt : ∀ (k : Nat) (f : Nat → Int32), (∀ p q, p ≤ q → q < k → f p ≤ f q) → ∀ p q, p ≤ q → q ≤ k → swB k f p ≤ swB k f q
  | 0, f, h, p, q, hpq, hq => by
    have : p = q := by omega
    subst this
    exact i_le_refl _
  | k + 1, f, h, p, q, hpq, hq => by
    rw [swB]
    by_cases hle : f k ≤ f (k + 1)
    · rw [if_pos hle]
      by_cases e : q = k + 1
      · subst e
        by_cases e2 : p = k + 1
        · subst e2; exact i_le_refl _
        · exact i_le_trans (h p k (by omega) (by omega)) hle
      · exact h p q hpq (by omega)
    · rw [if_neg hle]
      have hlt := (fa_of_nle hle)
      by_cases e : q = k + 1
      · subst e
        rw [swB_o k _ (k + 1) (by omega), pk_un (by omega), pk_us]
        by_cases e2 : p = k + 1
        · subst e2; rw [swB_o k _ (k + 1) (by omega), pk_un (by omega), pk_us]; exact i_le_refl _
        · refine swB_all (Pr := fun z => z ≤ f k) k _ (fun r hr => ?_) p (by omega)
          by_cases e3 : r = k
          · subst e3; rw [pk_us]; exact (fa_of_lt hlt).1
          · rw [pk_un e3, pk_un (by omega)]; exact h r k (by omega) (by omega)
      · refine swB_srt k _ (fun a b hab hb => ?_) p q hpq (by omega)
        rw [pk_un (by omega), pk_un (by omega), pk_un (by omega), pk_un (by omega)]
        exact h a b hab (by omega)
theorem srtK_srt (f : Nat → Int32) : ∀ i p q, p ≤ q → q ≤ i → srtK f i p ≤ srtK f i q
  | 0, p, q, hpq, hq => by
    have : p = q := by omega
    subst this
    exact i_le_refl _
  | i + 1, p, q, hpq, hq => by
    rw [srtK]
    exact swB_srt _ _ (fun a b hab hb => srtK_srt f i a b hab (by omega)) p q hpq hq
