set_option maxHeartbeats 4000000 in
set_option maxRecDepth 100000 in
/-- the law's loop: n turns are left at the most -/
theorem law_loop {p9 : Program} {l : Launch} {e9 : Env} {s9 : State} {m9 : MethodId} {be9 : List Frame} {mt9 : Method} {c9 : Code} {sc L : Nat} {sx : Nat → Int32} {G : gT} {X : Nat → Nat} (C9 : lC p9 l s9 m9 mt9 c9 sc L sx G X) (a : aMd) (g o : Nat) (r : aRw) (x y : aAx) (b : aBd) : ∀ (n i kc ks : Nat) (m : tMd) (out : Nat → Int64) (rs : tRw) (so : tOb) (tx ty : tAx) (bs : tBd) (H : Heap) (locs : List Loc) (ls : Array Slot), L < i + 5 * n + 5 → i ≤ L + 5 → kc + 5 * n ≤ 601024 → ks + 30 * n ≤ 7293034 → LR m rs so tx ty bs → wW G (fun q => s9.heap.size ≤ q) s9.heap (lWd G a g o r x y b m out rs so tx ty bs) H locs → lv_has ls 7 [(0, .ref sc), (1, .ref o), (2, .ref (a 0)), (3, .ref g), (4, .int (nI i))] → W p9 l e9 room_1 s9 m9 #[.ref sc] be9 mt9 c9 H locs kc ks (lw_Z be9 #[.ref sc] s9) (F0 m9 23 ls []) := by
  obtain ⟨⟨hx, hb, hr, hml, hown, hts0, hX, hbl, hlocks, -⟩, hL, hst, hK, hF, hN⟩ := id C9
  have hbA : ¬ (fun q : Nat => s9.heap.size ≤ q) sc := Nat.not_le.mpr hbl
  have hLi : (Int32.ofNat L).toInt = (L : Int) := nI_toInt (show L < 2 ^ 31 by omega)
  have hL5 : (Int32.ofNat L - 5).toInt = (L : Int) - 5 := by
    have e5 : (5 : Int32).toInt = 5 := by decide
    rw [fb_subI (by rw [hLi, e5]; omega) (by rw [hLi, e5]; omega), hLi, e5]
  have fin : ∀ (H : Heap) (locs : List Loc) (ls : Array Slot) (kc ks : Nat), kc ≤ 601024 → ks ≤ 7293034 → va_S (fun q => s9.heap.size ≤ q) s9.heap H locs → W p9 l e9 room_1 s9 m9 #[.ref sc] be9 mt9 c9 H locs kc ks (lw_Z be9 #[.ref sc] s9) (F0 m9 1068 ls []) := by
    intro H locs ls kc ks hkc hks hS
    refine lv_iconst (v := 1) hx hb dL_law_1068 (by decide) ?_
    refine va_forget (fun q hq => hS.2.2 q hq) ?_
    refine W.widen (k := 601024) (n := 7293034) hkc hks ?_
    exact lw_ret hx hb hr hlocks dL_law_1069
  intro n
  induction n with
  | zero =>
    intro i kc ks m out rs so tx ty bs H locs ls hn hi5 hkc hks hR hw hl
    refine lv_iload hx hb dL_law_23 (lv_at hl 4 rfl) ?_
    refine lv_aload_n hx hb dL_law_25 rfl (lv_at hl 0 rfl) ?_
    refine va_slen hx hb hX hbl hbA hw.2.2 dL_law_26 ?_
    refine lv_iconst (v := 5) hx hb dL_law_27 (by decide) ?_
    refine lv_isub hx hb dL_law_28 ?_
    refine lv_icmp_gt (tgt := 1068) hx hb dL_law_29 (by decide) (fun c_29 => ?_) (fun c_29 => ?_)
    · exact fin _ _ _ _ _ (by omega) (by omega) hw.2.2
    · refine absurd ?_ c_29
      rw [fa_lt, hL5, nI_toInt (by omega)]
      omega
  | succ n ih =>
    intro i kc ks m out rs so tx ty bs H locs ls hn hi5 hkc hks hR hw hl
    refine lv_iload hx hb dL_law_23 (lv_at hl 4 rfl) ?_
    refine lv_aload_n hx hb dL_law_25 rfl (lv_at hl 0 rfl) ?_
    refine va_slen hx hb hX hbl hbA hw.2.2 dL_law_26 ?_
    refine lv_iconst (v := 5) hx hb dL_law_27 (by decide) ?_
    refine lv_isub hx hb dL_law_28 ?_
    refine lv_icmp_gt (tgt := 1068) hx hb dL_law_29 (by decide) (fun c_29 => ?_) (fun c_29 => ?_)
    · exact fin _ _ _ _ _ (by omega) (by omega) hw.2.2
    · have hi : i + 5 ≤ L := by
        rw [fa_lt, hL5, nI_toInt (by omega)] at c_29
        omega
      have kk : lGo p9 l e9 s9 m9 be9 mt9 c9 sc G a g o r x y b i (kc + 5) (ks + 30) := by
        intro md out' rs' so' tx' ty' bs' H' locs' ls' hR' hw' hl'
        refine lv_iinc (v := nI (i + 5)) (lv' := [(4, .int (nI (i + 5))), (0, .ref sc), (1, .ref o), (2, .ref (a 0)), (3, .ref g)]) hx hb dL_law_1062 hl' (k := 4) rfl (nI_add i 5) (by decide) rfl (fun ls hl => ?_)
        refine lv_goto (tgt := 23) hx hb dL_law_1065 (by decide) ?_
        exact ih (i + 5) (kc + 5) (ks + 30) md out' rs' so' tx' ty' bs' H' locs' ls (by omega) (by omega) (by omega) (by omega) hR' hw' (lv_sub hl [1, 2, 3, 4, 0] rfl)
      refine lv_aload_n hx hb dL_law_32 rfl (lv_at hl 0 rfl) ?_
      refine lv_iload hx hb dL_law_33 (lv_at hl 4 rfl) ?_
      refine va_sld hx hb hX hbl hbA hw.2.2 (vp_in_nI (show i < L by omega) (by omega)) dL_law_35 ?_
      refine lv_bipush (v := 31) hx hb dL_law_36 (by decide) ?_
      refine lv_iand hx hb dL_law_38 ?_
      obtain ⟨k, hk, ek⟩ : ∃ k : Nat, k < 32 ∧ sx (nI i).toNatClampNeg &&& 31 = nI k := ⟨iN (sx (nI i).toNatClampNeg) % 32, Nat.mod_lt _ (by omega), by rw [nI_iN (sx (nI i).toNatClampNeg), show (31 : Int32) = nI (2 ^ 5 - 1) from rfl, fa_mask, ← nI_iN]⟩
      refine r_top ek ?_
      rcases (show k = 0 ∨ k = 1 ∨ k = 2 ∨ k = 3 ∨ k = 4 ∨ k = 5 ∨ k = 6 ∨ k = 7 ∨ k = 8 ∨ k = 9 ∨ k = 10 ∨ k = 11 ∨ k = 12 ∨ k = 13 ∨ k = 14 ∨ k = 15 ∨ k = 16 ∨ 17 ≤ k by omega) with rfl | rfl | rfl | rfl | rfl | rfl | rfl | rfl | rfl | rfl | rfl | rfl | rfl | rfl | rfl | rfl | rfl | h9
      · refine lv_tableIn (off := 81) (tgt := 120) hx hb dL_law_39 (by decide) (by decide) (by decide) (by decide) ?_
        exact lc_point C9 a g o r x y b hR hi (by omega) (by omega) kk hw hl
      · refine lv_tableIn (off := 149) (tgt := 188) hx hb dL_law_39 (by decide) (by decide) (by decide) (by decide) ?_
        exact lc_hint C9 a g o r x y b hR hi (by omega) (by omega) kk hw hl
      · refine lv_tableIn (off := 209) (tgt := 248) hx hb dL_law_39 (by decide) (by decide) (by decide) (by decide) ?_
        exact lc_wish C9 a g o r x y b hR hi (by omega) (by omega) kk hw hl
      · refine lv_tableIn (off := 301) (tgt := 340) hx hb dL_law_39 (by decide) (by decide) (by decide) (by decide) ?_
        exact lc_remove C9 a g o r x y b hR hi (by omega) (by omega) kk hw hl
      · refine lv_tableIn (off := 357) (tgt := 396) hx hb dL_law_39 (by decide) (by decide) (by decide) (by decide) ?_
        exact lc_type C9 a g o r x y b hR hi (by omega) (by omega) kk hw hl
      · refine lv_tableIn (off := 425) (tgt := 464) hx hb dL_law_39 (by decide) (by decide) (by decide) (by decide) ?_
        exact lc_state C9 a g o r x y b hR hi (by omega) (by omega) kk hw hl
      · refine lv_tableIn (off := 481) (tgt := 520) hx hb dL_law_39 (by decide) (by decide) (by decide) (by decide) ?_
        exact lc_wishes C9 a g o r x y b hR hi (by omega) (by omega) kk hw hl
      · refine lv_tableIn (off := 494) (tgt := 533) hx hb dL_law_39 (by decide) (by decide) (by decide) (by decide) ?_
        exact lc_freedom C9 a g o r x y b hR hi (by omega) (by omega) kk hw hl
      · refine lv_tableIn (off := 507) (tgt := 546) hx hb dL_law_39 (by decide) (by decide) (by decide) (by decide) ?_
        exact lc_x C9 a g o r x y b hR hi (by omega) (by omega) kk hw hl
      · refine lv_tableIn (off := 563) (tgt := 602) hx hb dL_law_39 (by decide) (by decide) (by decide) (by decide) ?_
        exact lc_y C9 a g o r x y b hR hi (by omega) (by omega) kk hw hl
      · refine lv_tableIn (off := 619) (tgt := 658) hx hb dL_law_39 (by decide) (by decide) (by decide) (by decide) ?_
        exact lc_tell C9 a g o r x y b hR hi (by omega) (by omega) kk hw hl
      · refine lv_tableIn (off := 699) (tgt := 738) hx hb dL_law_39 (by decide) (by decide) (by decide) (by decide) ?_
        exact lc_choose C9 a g o r x y b hR hi (by omega) (by omega) kk hw hl
      · refine lv_tableIn (off := 755) (tgt := 794) hx hb dL_law_39 (by decide) (by decide) (by decide) (by decide) ?_
        exact lc_setBase C9 a g o r x y b hR hi (by omega) (by omega) kk hw hl
      · refine lv_tableIn (off := 842) (tgt := 881) hx hb dL_law_39 (by decide) (by decide) (by decide) (by decide) ?_
        exact lc_pocket C9 a g o r x y b hR hi (by omega) (by omega) kk hw hl
      · refine lv_tableIn (off := 934) (tgt := 973) hx hb dL_law_39 (by decide) (by decide) (by decide) (by decide) ?_
        exact lc_fails C9 a g o r x y b hR hi (by omega) (by omega) kk hw hl
      · refine lv_tableIn (off := 997) (tgt := 1036) hx hb dL_law_39 (by decide) (by decide) (by decide) (by decide) ?_
        exact lc_volume C9 a g o r x y b hR hi (by omega) (by omega) kk hw hl
      · refine lv_tableIn (off := 1010) (tgt := 1049) hx hb dL_law_39 (by decide) (by decide) (by decide) (by decide) ?_
        exact lc_price C9 a g o r x y b hR hi (by omega) (by omega) kk hw hl
      · refine lv_tableOut (tgt := 1062) hx hb dL_law_39 (Or.inr (by rw [nI_toInt (by omega)]; omega)) (by decide) ?_
        exact W.widen (k := kc + 5) (n := ks + 30) (by omega) (by omega) (kk _ _ _ _ _ _ _ _ _ _ hR hw hl)
