set_option maxHeartbeats 4000000 in
set_option maxRecDepth 100000 in
/-- the law: point -/
theorem lc_point {p9 : Program} {l : Launch} {e9 : Env} {s9 : State} {m9 : MethodId} {be9 : List Frame} {mt9 : Method} {c9 : Code} {sc L : Nat} {sx : Nat → Int32} {G : gT} {X : Nat → Nat} (C9 : lC p9 l s9 m9 mt9 c9 sc L sx G X) (a : aMd) (g o : Nat) (r : aRw) (x y : aAx) (b : aBd) {m : tMd} {out : Nat → Int64} {rs : tRw} {so : tOb} {tx ty : tAx} {bs : tBd} (hR : LR m rs so tx ty bs) {i : Nat} (hi : i + 5 ≤ L) {kc ks : Nat} (hkc : kc + 5 ≤ 601024) (hks : ks + 30 ≤ 7293034) (kk : lGo p9 l e9 s9 m9 be9 mt9 c9 sc G a g o r x y b i (kc + 5) (ks + 30)) {H : Heap} {locs : List Loc} {ls : Array Slot} (hw : wW G (fun q => s9.heap.size ≤ q) s9.heap (lWd G a g o r x y b m out rs so tx ty bs) H locs) (hl : lv_has ls 7 [(0, .ref sc), (1, .ref o), (2, .ref (a 0)), (3, .ref g), (4, .int (nI i))]) : W p9 l e9 room_1 s9 m9 #[.ref sc] be9 mt9 c9 H locs kc ks (lw_Z be9 #[.ref sc] s9) (F0 m9 120 ls []) := by
  obtain ⟨⟨hx, hb, -, hml, hown, hts0, hX, hbl, hlocks, -⟩, hL, hst, hK, hF, hN⟩ := C9
  have hts : ∀ w ∈ wsL_law, w.before #[Value.ref sc] s9 = true := fun w hw => hts0 w (wsL_law_in w hw)
  have hA : ∀ q : Nat, s9.heap.size ≤ q → (fun q : Nat => s9.heap.size ≤ q) q := fun _ h => h
  have hbA : ¬ (fun q : Nat => s9.heap.size ≤ q) sc := Nat.not_le.mpr hbl
  have hb8 : bs.2.1 ≤ 8 := by rw [hR.2.2.1.1.2.1]; exact hR.2.2.1.1.2.2.1
  have hw : wW G (fun q => s9.heap.size ≤ q) s9.heap (wMd G a m ++ (wLg G g out ++ (wRw G r rs ++ (wOb G (o, x.1, y.1, r.1, b.1) so ++ (wAx G x tx ++ (wAx G y ty ++ (wBd G b bs))))))) H locs := hw
  obtain ⟨hth, hout, hR1⟩ := lm_point hR (sx (i + 1)) (sx (i + 2)) out
  refine lv_aload_n hx hb dL_law_120 rfl (lv_at hl 1 rfl) ?_
  refine lv_aload_n hx hb dL_law_121 rfl (lv_at hl 0 rfl) ?_
  refine lv_iload hx hb dL_law_122 (lv_at hl 4 rfl) ?_
  refine lv_iconst (v := 1) hx hb dL_law_124 (by decide) ?_
  refine lv_iadd hx hb dL_law_125 ?_
  refine r_top (y := nI (i + 1)) (nI_add i 1) ?_
  refine va_sld hx hb hX hbl hbA hw.2.2 (vp_in_nI (show i + 1 < L by omega) (by omega)) dL_law_126 ?_
  refine r_top (y := sx (i + 1)) (congrArg sx (nI_clamp (show i + 1 < 2 ^ 31 by omega))) ?_
  refine lv_aload_n hx hb dL_law_127 rfl (lv_at hl 0 rfl) ?_
  refine lv_iload hx hb dL_law_128 (lv_at hl 4 rfl) ?_
  refine lv_iconst (v := 2) hx hb dL_law_130 (by decide) ?_
  refine lv_iadd hx hb dL_law_131 ?_
  refine r_top (y := nI (i + 2)) (nI_add i 2) ?_
  refine va_sld hx hb hX hbl hbA hw.2.2 (vp_in_nI (show i + 2 < L by omega) (by omega)) dL_law_132 ?_
  refine r_top (y := sx (i + 2)) (congrArg sx (nI_clamp (show i + 2 < 2 ^ 31 by omega))) ?_
  refine lv_aload_n hx hb dL_law_133 rfl (lv_at hl 3 rfl) ?_
  have hwc : wW G (fun q => s9.heap.size ≤ q) s9.heap ((wMd G a m) ++ ((wLg G g out ++ (wRw G r rs ++ (wOb G (o, x.1, y.1, r.1, b.1) so ++ (wAx G x tx ++ (wAx G y ty ++ (wBd G b bs)))))) ++ ([] : va_W))) H locs := hw
  refine r_calli (res := (hcd 1 2 9 (exPoint so.1 (sx (i + 1)) (sx (i + 2))))) (u := wMd G a m) (w := wLg G g out ++ (wRw G r rs ++ (wOb G (o, x.1, y.1, r.1, b.1) so ++ (wAx G x tx ++ (wAx G y ty ++ (wBd G b bs)))))) (v := ([] : va_W)) (vx_runSW (As := [.ref o, .int (sx (i + 1)), .int (sx (i + 2)), .ref g]) (rest := []) ⟨hx, hb, hml, hown, hts⟩ (c_L_point l G hst X g out r rs so x tx y ty b bs o (sx (i + 1)) (sx (i + 2)) (LRs.skOk hR) hb8 hR.2.2.1.2.1 hR.2.2.1.2.2.1 H.size) (vx_cwSW 4 hts gL_law_L_point rfl rfl rfl (by decide +kernel) ⟨Nat.le_of_ble_eq_true rfl, Nat.le_of_ble_eq_true rfl⟩) (h_preS hK hF hN hA hwc) rfl rfl hl.1 rfl (lv_room (Nat.le_of_ble_eq_true rfl)) dL_law_134 ⟨show kc + 3 ≤ 601024 by omega, show ks + 18 ≤ 7293034 by omega⟩) hwc hA rfl rfl (fun H locs hw => ?_)
  have hw : wW G (fun q => s9.heap.size ≤ q) s9.heap (wMd G a m ++ (wLg G g (xs (exPoint so.1 (sx (i + 1)) (sx (i + 2))) out (vp_updL out 0 (nI so.1).toInt64)) ++ (wRw G r rs ++ (wOb G (o, x.1, y.1, r.1, b.1) (xs (exPoint so.1 (sx (i + 1)) (sx (i + 2))) so ((so.1 + 1), 0)) ++ (wAx G x (xs (exPoint so.1 (sx (i + 1)) (sx (i + 2))) tx ((upd tx.1 so.1 (sx (i + 1))), tx.2.1, tx.2.2.1, tx.2.2.2)) ++ (wAx G y (xs (exPoint so.1 (sx (i + 1)) (sx (i + 2))) ty ((upd ty.1 so.1 (sx (i + 2))), ty.2.1, ty.2.2.1, ty.2.2.2)) ++ (wBd G b bs))))))) H locs := wW.eq (by generalize exPoint so.1 (sx (i + 1)) (sx (i + 2)) = E9; cases E9 <;> rfl) hw
  refine lv_istore (lv' := [(5, .int (hcd 1 2 9 (exPoint so.1 (sx (i + 1)) (sx (i + 2))))), (0, .ref sc), (1, .ref o), (2, .ref (a 0)), (3, .ref g), (4, .int (nI i))]) hx hb dL_law_137 hl (by decide) rfl (fun ls hl => ?_)
  refine lv_aload_n hx hb dL_law_139 rfl (lv_at hl 3 rfl) ?_
  refine lv_aload_n hx hb dL_law_140 rfl (lv_at hl 1 rfl) ?_
  refine lv_iload hx hb dL_law_141 (lv_at hl 5 rfl) ?_
  refine lv_iconst (v := 1) hx hb dL_law_143 (by decide) ?_
  refine lv_iadd hx hb dL_law_144 ?_
  refine r_top (y := nI (i + 1)) (nI_add i 1) ?_
  refine va_sld hx hb hX hbl hbA hw.2.2 (vp_in_nI (show i + 1 < L by omega) (by omega)) dL_law_145 ?_
  refine r_top (y := sx (i + 1)) (congrArg sx (nI_clamp (show i + 1 < 2 ^ 31 by omega))) ?_
  refine lv_aload_n hx hb dL_law_146 rfl (lv_at hl 1 rfl) ?_
  refine lv_iload hx hb dL_law_147 (lv_at hl 5 rfl) ?_
  refine lv_iconst (v := 2) hx hb dL_law_149 (by decide) ?_
  refine lv_iadd hx hb dL_law_150 ?_
  refine r_top (y := nI (i + 2)) (nI_add i 2) ?_
  refine va_sld hx hb hX hbl hbA hw.2.2 (vp_in_nI (show i + 2 < L by omega) (by omega)) dL_law_151 ?_
  refine r_top (y := sx (i + 2)) (congrArg sx (nI_clamp (show i + 2 < 2 ^ 31 by omega))) ?_
  have hwc : wW G (fun q => s9.heap.size ≤ q) s9.heap (([] : va_W) ++ ((wMd G a m) ++ (wLg G g (xs (exPoint so.1 (sx (i + 1)) (sx (i + 2))) out (vp_updL out 0 (nI so.1).toInt64)) ++ (wRw G r rs ++ (wOb G (o, x.1, y.1, r.1, b.1) (xs (exPoint so.1 (sx (i + 1)) (sx (i + 2))) so ((so.1 + 1), 0)) ++ (wAx G x (xs (exPoint so.1 (sx (i + 1)) (sx (i + 2))) tx ((upd tx.1 so.1 (sx (i + 1))), tx.2.1, tx.2.2.1, tx.2.2.2)) ++ (wAx G y (xs (exPoint so.1 (sx (i + 1)) (sx (i + 2))) ty ((upd ty.1 so.1 (sx (i + 2))), ty.2.1, ty.2.2.1, ty.2.2.2)) ++ (wBd G b bs)))))))) H locs := hw
  refine r_calli (res := ((mdPoint m (sx (i + 1)) (sx (i + 2))).1)) (u := ([] : va_W)) (w := wMd G a m) (v := wLg G g (xs (exPoint so.1 (sx (i + 1)) (sx (i + 2))) out (vp_updL out 0 (nI so.1).toInt64)) ++ (wRw G r rs ++ (wOb G (o, x.1, y.1, r.1, b.1) (xs (exPoint so.1 (sx (i + 1)) (sx (i + 2))) so ((so.1 + 1), 0)) ++ (wAx G x (xs (exPoint so.1 (sx (i + 1)) (sx (i + 2))) tx ((upd tx.1 so.1 (sx (i + 1))), tx.2.1, tx.2.2.1, tx.2.2.2)) ++ (wAx G y (xs (exPoint so.1 (sx (i + 1)) (sx (i + 2))) ty ((upd ty.1 so.1 (sx (i + 2))), ty.2.1, ty.2.2.1, ty.2.2.2)) ++ (wBd G b bs)))))) (va_runV (As := [.int (sx (i + 1)), .int (sx (i + 2))]) (rest := []) ⟨hx, hb, hml, hown, hts⟩ (c_m_point l G a m (sx (i + 1)) (sx (i + 2)) hR.np.2 H.size) (cwV 2 hts gL_law_X5_point rfl rfl rfl (by decide +kernel) ⟨Nat.le_of_ble_eq_true rfl, Nat.le_of_ble_eq_true rfl⟩) (r_preV (ci := 5) (q0 := 0) hK hwc rfl rfl rfl) rfl rfl hl.1 rfl (lv_room (Nat.le_of_ble_eq_true rfl)) dL_law_152 ⟨show kc + 3 + 0 ≤ 601024 by omega, show ks + 18 + 0 ≤ 7293034 by omega⟩) hwc hA rfl rfl (fun H locs hw => ?_)
  have hw : wW G (fun q => s9.heap.size ≤ q) s9.heap (wMd G a ((mdPoint m (sx (i + 1)) (sx (i + 2))).2) ++ (wLg G g (xs (exPoint so.1 (sx (i + 1)) (sx (i + 2))) out (vp_updL out 0 (nI so.1).toInt64)) ++ (wRw G r rs ++ (wOb G (o, x.1, y.1, r.1, b.1) (xs (exPoint so.1 (sx (i + 1)) (sx (i + 2))) so ((so.1 + 1), 0)) ++ (wAx G x (xs (exPoint so.1 (sx (i + 1)) (sx (i + 2))) tx ((upd tx.1 so.1 (sx (i + 1))), tx.2.1, tx.2.2.1, tx.2.2.2)) ++ (wAx G y (xs (exPoint so.1 (sx (i + 1)) (sx (i + 2))) ty ((upd ty.1 so.1 (sx (i + 2))), ty.2.1, ty.2.2.1, ty.2.2.2)) ++ (wBd G b bs))))))) H locs := hw
  refine lv_istore (lv' := [(6, .int ((mdPoint m (sx (i + 1)) (sx (i + 2))).1)), (5, .int (hcd 1 2 9 (exPoint so.1 (sx (i + 1)) (sx (i + 2))))), (0, .ref sc), (1, .ref o), (2, .ref (a 0)), (3, .ref g), (4, .int (nI i))]) hx hb dL_law_155 hl (by decide) rfl (fun ls hl => ?_)
  refine lv_aload_n hx hb dL_law_157 rfl (lv_at hl 4 rfl) ?_
  have hwc : wW G (fun q => s9.heap.size ≤ q) s9.heap (([] : va_W) ++ ((wMd G a ((mdPoint m (sx (i + 1)) (sx (i + 2))).2)) ++ (wLg G g (xs (exPoint so.1 (sx (i + 1)) (sx (i + 2))) out (vp_updL out 0 (nI so.1).toInt64)) ++ (wRw G r rs ++ (wOb G (o, x.1, y.1, r.1, b.1) (xs (exPoint so.1 (sx (i + 1)) (sx (i + 2))) so ((so.1 + 1), 0)) ++ (wAx G x (xs (exPoint so.1 (sx (i + 1)) (sx (i + 2))) tx ((upd tx.1 so.1 (sx (i + 1))), tx.2.1, tx.2.2.1, tx.2.2.2)) ++ (wAx G y (xs (exPoint so.1 (sx (i + 1)) (sx (i + 2))) ty ((upd ty.1 so.1 (sx (i + 2))), ty.2.1, ty.2.2.1, ty.2.2.2)) ++ (wBd G b bs)))))))) H locs := hw
  refine r_calli (res := (((mdPoint m (sx (i + 1)) (sx (i + 2))).2).1)) (u := ([] : va_W)) (w := wMd G a ((mdPoint m (sx (i + 1)) (sx (i + 2))).2)) (v := wLg G g (xs (exPoint so.1 (sx (i + 1)) (sx (i + 2))) out (vp_updL out 0 (nI so.1).toInt64)) ++ (wRw G r rs ++ (wOb G (o, x.1, y.1, r.1, b.1) (xs (exPoint so.1 (sx (i + 1)) (sx (i + 2))) so ((so.1 + 1), 0)) ++ (wAx G x (xs (exPoint so.1 (sx (i + 1)) (sx (i + 2))) tx ((upd tx.1 so.1 (sx (i + 1))), tx.2.1, tx.2.2.1, tx.2.2.2)) ++ (wAx G y (xs (exPoint so.1 (sx (i + 1)) (sx (i + 2))) ty ((upd ty.1 so.1 (sx (i + 2))), ty.2.1, ty.2.2.1, ty.2.2.2)) ++ (wBd G b bs)))))) (va_runV (As := []) (rest := []) ⟨hx, hb, hml, hown, hts⟩ (c_thrown l G a ((mdPoint m (sx (i + 1)) (sx (i + 2))).2) H.size) (cwV 0 hts gL_law_X5_thrown rfl rfl rfl (by decide +kernel) ⟨Nat.le_of_ble_eq_true rfl, Nat.le_of_ble_eq_true rfl⟩) (r_preV (ci := 5) (q0 := 0) hK hwc rfl rfl rfl) rfl rfl hl.1 rfl (lv_room (Nat.le_of_ble_eq_true rfl)) dL_law_158 ⟨show kc + 3 + 0 + 0 ≤ 601024 by omega, show ks + 18 + 0 + 0 ≤ 7293034 by omega⟩) hwc hA rfl rfl (fun H locs hw => ?_)
  have hw : wW G (fun q => s9.heap.size ≤ q) s9.heap (wMd G a ((mdPoint m (sx (i + 1)) (sx (i + 2))).2) ++ (wLg G g (xs (exPoint so.1 (sx (i + 1)) (sx (i + 2))) out (vp_updL out 0 (nI so.1).toInt64)) ++ (wRw G r rs ++ (wOb G (o, x.1, y.1, r.1, b.1) (xs (exPoint so.1 (sx (i + 1)) (sx (i + 2))) so ((so.1 + 1), 0)) ++ (wAx G x (xs (exPoint so.1 (sx (i + 1)) (sx (i + 2))) tx ((upd tx.1 so.1 (sx (i + 1))), tx.2.1, tx.2.2.1, tx.2.2.2)) ++ (wAx G y (xs (exPoint so.1 (sx (i + 1)) (sx (i + 2))) ty ((upd ty.1 so.1 (sx (i + 2))), ty.2.1, ty.2.2.1, ty.2.2.2)) ++ (wBd G b bs))))))) H locs := hw
  refine lv_iload hx hb dL_law_161 (lv_at hl 1 rfl) ?_
  refine lv_icmp_eq (tgt := 168) hx hb dL_law_163 (by decide) (fun c_163 => ?_) (fun c_163 => ?_)
  · refine lv_iload hx hb dL_law_168 (lv_at hl 1 rfl) ?_
    refine lv_if_ne (tgt := 185) hx hb dL_law_170 (by decide) (fun c_170 => ?_) (fun c_170 => ?_)
    · refine lv_goto (tgt := 1062) hx hb dL_law_185 (by decide) ?_
      exact W.widen (k := kc + 5) (n := ks + 30) (by omega) (by omega) (kk _ _ _ _ _ _ _ _ _ _ hR1 hw (lv_sub hl [2, 3, 4, 5, 6] rfl))
    · have hq := hout c_170
      refine lv_aload_n hx hb dL_law_173 rfl (lv_at hl 5 rfl) ?_
      refine lv_iconst (v := 0) hx hb dL_law_174 (by decide) ?_
      refine r_lald (v := (xs (exPoint so.1 (sx (i + 1)) (sx (i + 2))) out (vp_updL out 0 (nI so.1).toInt64)) 0) hx hb hK hw 22 rfl 0 rfl (by omega) (by decide) rfl dL_law_175 ?_
      refine lv_iload hx hb dL_law_176 (lv_at hl 0 rfl) ?_
      refine lv_i2l (v := ((mdPoint m (sx (i + 1)) (sx (i + 2))).1).toInt64) hx hb dL_law_178 rfl ?_
      refine W.lcmp hx hb dL_law_179 ?_
      refine lv_if_eq (tgt := 185) hx hb dL_law_180 (by decide) (fun c_180 => ?_) (fun c_180 => ?_)
      · refine lv_goto (tgt := 1062) hx hb dL_law_185 (by decide) ?_
        exact W.widen (k := kc + 5) (n := ks + 30) (by omega) (by omega) (kk _ _ _ _ _ _ _ _ _ _ hR1 hw (lv_sub hl [2, 3, 4, 5, 6] rfl))
      · exact absurd ((lg_cmp_eq _ _).mpr hq) c_180
  · exact absurd hth c_163

set_option maxHeartbeats 4000000 in
set_option maxRecDepth 100000 in
/-- the law: hint -/
theorem lc_hint {p9 : Program} {l : Launch} {e9 : Env} {s9 : State} {m9 : MethodId} {be9 : List Frame} {mt9 : Method} {c9 : Code} {sc L : Nat} {sx : Nat → Int32} {G : gT} {X : Nat → Nat} (C9 : lC p9 l s9 m9 mt9 c9 sc L sx G X) (a : aMd) (g o : Nat) (r : aRw) (x y : aAx) (b : aBd) {m : tMd} {out : Nat → Int64} {rs : tRw} {so : tOb} {tx ty : tAx} {bs : tBd} (hR : LR m rs so tx ty bs) {i : Nat} (hi : i + 5 ≤ L) {kc ks : Nat} (hkc : kc + 5 ≤ 601024) (hks : ks + 30 ≤ 7293034) (kk : lGo p9 l e9 s9 m9 be9 mt9 c9 sc G a g o r x y b i (kc + 5) (ks + 30)) {H : Heap} {locs : List Loc} {ls : Array Slot} (hw : wW G (fun q => s9.heap.size ≤ q) s9.heap (lWd G a g o r x y b m out rs so tx ty bs) H locs) (hl : lv_has ls 7 [(0, .ref sc), (1, .ref o), (2, .ref (a 0)), (3, .ref g), (4, .int (nI i))]) : W p9 l e9 room_1 s9 m9 #[.ref sc] be9 mt9 c9 H locs kc ks (lw_Z be9 #[.ref sc] s9) (F0 m9 188 ls []) := by
  obtain ⟨⟨hx, hb, -, hml, hown, hts0, hX, hbl, hlocks, -⟩, hL, hst, hK, hF, hN⟩ := C9
  have hts : ∀ w ∈ wsL_law, w.before #[Value.ref sc] s9 = true := fun w hw => hts0 w (wsL_law_in w hw)
  have hA : ∀ q : Nat, s9.heap.size ≤ q → (fun q : Nat => s9.heap.size ≤ q) q := fun _ h => h
  have hbA : ¬ (fun q : Nat => s9.heap.size ≤ q) sc := Nat.not_le.mpr hbl
  have hb8 : bs.2.1 ≤ 8 := by rw [hR.2.2.1.1.2.1]; exact hR.2.2.1.1.2.2.1
  have hw : wW G (fun q => s9.heap.size ≤ q) s9.heap (wMd G a m ++ (wLg G g out ++ (wRw G r rs ++ (wOb G (o, x.1, y.1, r.1, b.1) so ++ (wAx G x tx ++ (wAx G y ty ++ (wBd G b bs))))))) H locs := hw
  obtain ⟨hth, hR1⟩ := lm_hint hR (sx (i + 1)) (sx (i + 2)) (sx (i + 3))
  refine lv_aload_n hx hb dL_law_188 rfl (lv_at hl 1 rfl) ?_
  refine lv_aload_n hx hb dL_law_189 rfl (lv_at hl 0 rfl) ?_
  refine lv_iload hx hb dL_law_190 (lv_at hl 4 rfl) ?_
  refine lv_iconst (v := 1) hx hb dL_law_192 (by decide) ?_
  refine lv_iadd hx hb dL_law_193 ?_
  refine r_top (y := nI (i + 1)) (nI_add i 1) ?_
  refine va_sld hx hb hX hbl hbA hw.2.2 (vp_in_nI (show i + 1 < L by omega) (by omega)) dL_law_194 ?_
  refine r_top (y := sx (i + 1)) (congrArg sx (nI_clamp (show i + 1 < 2 ^ 31 by omega))) ?_
  refine lv_aload_n hx hb dL_law_195 rfl (lv_at hl 0 rfl) ?_
  refine lv_iload hx hb dL_law_196 (lv_at hl 4 rfl) ?_
  refine lv_iconst (v := 2) hx hb dL_law_198 (by decide) ?_
  refine lv_iadd hx hb dL_law_199 ?_
  refine r_top (y := nI (i + 2)) (nI_add i 2) ?_
  refine va_sld hx hb hX hbl hbA hw.2.2 (vp_in_nI (show i + 2 < L by omega) (by omega)) dL_law_200 ?_
  refine r_top (y := sx (i + 2)) (congrArg sx (nI_clamp (show i + 2 < 2 ^ 31 by omega))) ?_
  refine lv_aload_n hx hb dL_law_201 rfl (lv_at hl 0 rfl) ?_
  refine lv_iload hx hb dL_law_202 (lv_at hl 4 rfl) ?_
  refine lv_iconst (v := 3) hx hb dL_law_204 (by decide) ?_
  refine lv_iadd hx hb dL_law_205 ?_
  refine r_top (y := nI (i + 3)) (nI_add i 3) ?_
  refine va_sld hx hb hX hbl hbA hw.2.2 (vp_in_nI (show i + 3 < L by omega) (by omega)) dL_law_206 ?_
  refine r_top (y := sx (i + 3)) (congrArg sx (nI_clamp (show i + 3 < 2 ^ 31 by omega))) ?_
  have hwc : wW G (fun q => s9.heap.size ≤ q) s9.heap ((wMd G a m) ++ ((wLg G g out ++ (wRw G r rs ++ (wOb G (o, x.1, y.1, r.1, b.1) so ++ (wAx G x tx ++ (wAx G y ty ++ (wBd G b bs)))))) ++ ([] : va_W))) H locs := hw
  refine r_calli (res := (hcd 2 9 1 (exHint so.1 (sx (i + 1)) (sx (i + 2)) (sx (i + 3))))) (u := wMd G a m) (w := wLg G g out ++ (wRw G r rs ++ (wOb G (o, x.1, y.1, r.1, b.1) so ++ (wAx G x tx ++ (wAx G y ty ++ (wBd G b bs)))))) (v := ([] : va_W)) (vx_runSW (As := [.ref o, .int (sx (i + 1)), .int (sx (i + 2)), .int (sx (i + 3))]) (rest := []) ⟨hx, hb, hml, hown, hts⟩ (c_L_hint l G hst X g out r rs so x tx y ty b bs o (sx (i + 1)) (sx (i + 2)) (sx (i + 3)) (LRs.skOk hR) hb8 hR.2.2.1.2.1 hR.2.2.1.2.2.1 H.size) (vx_cwSW 4 hts gL_law_L_hint rfl rfl rfl (by decide +kernel) ⟨Nat.le_of_ble_eq_true rfl, Nat.le_of_ble_eq_true rfl⟩) (h_preS hK hF hN hA hwc) rfl rfl hl.1 rfl (lv_room (Nat.le_of_ble_eq_true rfl)) dL_law_207 ⟨show kc + 3 ≤ 601024 by omega, show ks + 18 ≤ 7293034 by omega⟩) hwc hA rfl rfl (fun H locs hw => ?_)
  have hw : wW G (fun q => s9.heap.size ≤ q) s9.heap (wMd G a m ++ (wLg G g out ++ (wRw G r rs ++ (wOb G (o, x.1, y.1, r.1, b.1) (xs (exHint so.1 (sx (i + 1)) (sx (i + 2)) (sx (i + 3))) so (so.1, 0)) ++ (wAx G x (xs (exHint so.1 (sx (i + 1)) (sx (i + 2)) (sx (i + 3))) tx ((upd tx.1 (iN (sx (i + 1))) (sx (i + 2))), tx.2.1, tx.2.2.1, tx.2.2.2)) ++ (wAx G y (xs (exHint so.1 (sx (i + 1)) (sx (i + 2)) (sx (i + 3))) ty ((upd ty.1 (iN (sx (i + 1))) (sx (i + 3))), ty.2.1, ty.2.2.1, ty.2.2.2)) ++ (wBd G b bs))))))) H locs := wW.eq (by generalize exHint so.1 (sx (i + 1)) (sx (i + 2)) (sx (i + 3)) = E9; cases E9 <;> rfl) hw
  refine lv_istore (lv' := [(5, .int (hcd 2 9 1 (exHint so.1 (sx (i + 1)) (sx (i + 2)) (sx (i + 3))))), (0, .ref sc), (1, .ref o), (2, .ref (a 0)), (3, .ref g), (4, .int (nI i))]) hx hb dL_law_210 hl (by decide) rfl (fun ls hl => ?_)
  refine lv_aload_n hx hb dL_law_212 rfl (lv_at hl 3 rfl) ?_
  refine lv_aload_n hx hb dL_law_213 rfl (lv_at hl 1 rfl) ?_
  refine lv_iload hx hb dL_law_214 (lv_at hl 5 rfl) ?_
  refine lv_iconst (v := 1) hx hb dL_law_216 (by decide) ?_
  refine lv_iadd hx hb dL_law_217 ?_
  refine r_top (y := nI (i + 1)) (nI_add i 1) ?_
  refine va_sld hx hb hX hbl hbA hw.2.2 (vp_in_nI (show i + 1 < L by omega) (by omega)) dL_law_218 ?_
  refine r_top (y := sx (i + 1)) (congrArg sx (nI_clamp (show i + 1 < 2 ^ 31 by omega))) ?_
  refine lv_aload_n hx hb dL_law_219 rfl (lv_at hl 1 rfl) ?_
  refine lv_iload hx hb dL_law_220 (lv_at hl 5 rfl) ?_
  refine lv_iconst (v := 2) hx hb dL_law_222 (by decide) ?_
  refine lv_iadd hx hb dL_law_223 ?_
  refine r_top (y := nI (i + 2)) (nI_add i 2) ?_
  refine va_sld hx hb hX hbl hbA hw.2.2 (vp_in_nI (show i + 2 < L by omega) (by omega)) dL_law_224 ?_
  refine r_top (y := sx (i + 2)) (congrArg sx (nI_clamp (show i + 2 < 2 ^ 31 by omega))) ?_
  refine lv_aload_n hx hb dL_law_225 rfl (lv_at hl 1 rfl) ?_
  refine lv_iload hx hb dL_law_226 (lv_at hl 5 rfl) ?_
  refine lv_iconst (v := 3) hx hb dL_law_228 (by decide) ?_
  refine lv_iadd hx hb dL_law_229 ?_
  refine r_top (y := nI (i + 3)) (nI_add i 3) ?_
  refine va_sld hx hb hX hbl hbA hw.2.2 (vp_in_nI (show i + 3 < L by omega) (by omega)) dL_law_230 ?_
  refine r_top (y := sx (i + 3)) (congrArg sx (nI_clamp (show i + 3 < 2 ^ 31 by omega))) ?_
  have hwc : wW G (fun q => s9.heap.size ≤ q) s9.heap (([] : va_W) ++ ((wMd G a m) ++ (wLg G g out ++ (wRw G r rs ++ (wOb G (o, x.1, y.1, r.1, b.1) (xs (exHint so.1 (sx (i + 1)) (sx (i + 2)) (sx (i + 3))) so (so.1, 0)) ++ (wAx G x (xs (exHint so.1 (sx (i + 1)) (sx (i + 2)) (sx (i + 3))) tx ((upd tx.1 (iN (sx (i + 1))) (sx (i + 2))), tx.2.1, tx.2.2.1, tx.2.2.2)) ++ (wAx G y (xs (exHint so.1 (sx (i + 1)) (sx (i + 2)) (sx (i + 3))) ty ((upd ty.1 (iN (sx (i + 1))) (sx (i + 3))), ty.2.1, ty.2.2.1, ty.2.2.2)) ++ (wBd G b bs)))))))) H locs := hw
  refine r_callv (u := ([] : va_W)) (w := wMd G a m) (v := wLg G g out ++ (wRw G r rs ++ (wOb G (o, x.1, y.1, r.1, b.1) (xs (exHint so.1 (sx (i + 1)) (sx (i + 2)) (sx (i + 3))) so (so.1, 0)) ++ (wAx G x (xs (exHint so.1 (sx (i + 1)) (sx (i + 2)) (sx (i + 3))) tx ((upd tx.1 (iN (sx (i + 1))) (sx (i + 2))), tx.2.1, tx.2.2.1, tx.2.2.2)) ++ (wAx G y (xs (exHint so.1 (sx (i + 1)) (sx (i + 2)) (sx (i + 3))) ty ((upd ty.1 (iN (sx (i + 1))) (sx (i + 3))), ty.2.1, ty.2.2.1, ty.2.2.2)) ++ (wBd G b bs)))))) (va_runV (As := [.int (sx (i + 1)), .int (sx (i + 2)), .int (sx (i + 3))]) (rest := []) ⟨hx, hb, hml, hown, hts⟩ (c_m_hint l G a m (sx (i + 1)) (sx (i + 2)) (sx (i + 3)) hR.np.2 H.size) (cwV 3 hts gL_law_X5_hint rfl rfl rfl (by decide +kernel) ⟨Nat.le_of_ble_eq_true rfl, Nat.le_of_ble_eq_true rfl⟩) (r_preV (ci := 5) (q0 := 0) hK hwc rfl rfl rfl) rfl rfl hl.1 rfl (lv_room (Nat.le_of_ble_eq_true rfl)) dL_law_231 ⟨show kc + 3 + 0 ≤ 601024 by omega, show ks + 18 + 0 ≤ 7293034 by omega⟩) hwc hA rfl rfl (fun H locs hw => ?_)
  have hw : wW G (fun q => s9.heap.size ≤ q) s9.heap (wMd G a (mdHint m (sx (i + 1)) (sx (i + 2)) (sx (i + 3))) ++ (wLg G g out ++ (wRw G r rs ++ (wOb G (o, x.1, y.1, r.1, b.1) (xs (exHint so.1 (sx (i + 1)) (sx (i + 2)) (sx (i + 3))) so (so.1, 0)) ++ (wAx G x (xs (exHint so.1 (sx (i + 1)) (sx (i + 2)) (sx (i + 3))) tx ((upd tx.1 (iN (sx (i + 1))) (sx (i + 2))), tx.2.1, tx.2.2.1, tx.2.2.2)) ++ (wAx G y (xs (exHint so.1 (sx (i + 1)) (sx (i + 2)) (sx (i + 3))) ty ((upd ty.1 (iN (sx (i + 1))) (sx (i + 3))), ty.2.1, ty.2.2.1, ty.2.2.2)) ++ (wBd G b bs))))))) H locs := hw
  refine lv_aload_n hx hb dL_law_234 rfl (lv_at hl 3 rfl) ?_
  have hwc : wW G (fun q => s9.heap.size ≤ q) s9.heap (([] : va_W) ++ ((wMd G a (mdHint m (sx (i + 1)) (sx (i + 2)) (sx (i + 3)))) ++ (wLg G g out ++ (wRw G r rs ++ (wOb G (o, x.1, y.1, r.1, b.1) (xs (exHint so.1 (sx (i + 1)) (sx (i + 2)) (sx (i + 3))) so (so.1, 0)) ++ (wAx G x (xs (exHint so.1 (sx (i + 1)) (sx (i + 2)) (sx (i + 3))) tx ((upd tx.1 (iN (sx (i + 1))) (sx (i + 2))), tx.2.1, tx.2.2.1, tx.2.2.2)) ++ (wAx G y (xs (exHint so.1 (sx (i + 1)) (sx (i + 2)) (sx (i + 3))) ty ((upd ty.1 (iN (sx (i + 1))) (sx (i + 3))), ty.2.1, ty.2.2.1, ty.2.2.2)) ++ (wBd G b bs)))))))) H locs := hw
  refine r_calli (res := ((mdHint m (sx (i + 1)) (sx (i + 2)) (sx (i + 3))).1)) (u := ([] : va_W)) (w := wMd G a (mdHint m (sx (i + 1)) (sx (i + 2)) (sx (i + 3)))) (v := wLg G g out ++ (wRw G r rs ++ (wOb G (o, x.1, y.1, r.1, b.1) (xs (exHint so.1 (sx (i + 1)) (sx (i + 2)) (sx (i + 3))) so (so.1, 0)) ++ (wAx G x (xs (exHint so.1 (sx (i + 1)) (sx (i + 2)) (sx (i + 3))) tx ((upd tx.1 (iN (sx (i + 1))) (sx (i + 2))), tx.2.1, tx.2.2.1, tx.2.2.2)) ++ (wAx G y (xs (exHint so.1 (sx (i + 1)) (sx (i + 2)) (sx (i + 3))) ty ((upd ty.1 (iN (sx (i + 1))) (sx (i + 3))), ty.2.1, ty.2.2.1, ty.2.2.2)) ++ (wBd G b bs)))))) (va_runV (As := []) (rest := []) ⟨hx, hb, hml, hown, hts⟩ (c_thrown l G a (mdHint m (sx (i + 1)) (sx (i + 2)) (sx (i + 3))) H.size) (cwV 0 hts gL_law_X5_thrown rfl rfl rfl (by decide +kernel) ⟨Nat.le_of_ble_eq_true rfl, Nat.le_of_ble_eq_true rfl⟩) (r_preV (ci := 5) (q0 := 0) hK hwc rfl rfl rfl) rfl rfl hl.1 rfl (lv_room (Nat.le_of_ble_eq_true rfl)) dL_law_235 ⟨show kc + 3 + 0 + 0 ≤ 601024 by omega, show ks + 18 + 0 + 0 ≤ 7293034 by omega⟩) hwc hA rfl rfl (fun H locs hw => ?_)
  have hw : wW G (fun q => s9.heap.size ≤ q) s9.heap (wMd G a (mdHint m (sx (i + 1)) (sx (i + 2)) (sx (i + 3))) ++ (wLg G g out ++ (wRw G r rs ++ (wOb G (o, x.1, y.1, r.1, b.1) (xs (exHint so.1 (sx (i + 1)) (sx (i + 2)) (sx (i + 3))) so (so.1, 0)) ++ (wAx G x (xs (exHint so.1 (sx (i + 1)) (sx (i + 2)) (sx (i + 3))) tx ((upd tx.1 (iN (sx (i + 1))) (sx (i + 2))), tx.2.1, tx.2.2.1, tx.2.2.2)) ++ (wAx G y (xs (exHint so.1 (sx (i + 1)) (sx (i + 2)) (sx (i + 3))) ty ((upd ty.1 (iN (sx (i + 1))) (sx (i + 3))), ty.2.1, ty.2.2.1, ty.2.2.2)) ++ (wBd G b bs))))))) H locs := hw
  refine lv_iload hx hb dL_law_238 (lv_at hl 0 rfl) ?_
  refine lv_icmp_eq (tgt := 245) hx hb dL_law_240 (by decide) (fun c_240 => ?_) (fun c_240 => ?_)
  · refine lv_goto (tgt := 1062) hx hb dL_law_245 (by decide) ?_
    exact W.widen (k := kc + 5) (n := ks + 30) (by omega) (by omega) (kk _ _ _ _ _ _ _ _ _ _ hR1 hw (lv_sub hl [1, 2, 3, 4, 5] rfl))
  · exact absurd hth c_240

set_option maxHeartbeats 4000000 in
set_option maxRecDepth 100000 in
/-- the law: wish -/
theorem lc_wish {p9 : Program} {l : Launch} {e9 : Env} {s9 : State} {m9 : MethodId} {be9 : List Frame} {mt9 : Method} {c9 : Code} {sc L : Nat} {sx : Nat → Int32} {G : gT} {X : Nat → Nat} (C9 : lC p9 l s9 m9 mt9 c9 sc L sx G X) (a : aMd) (g o : Nat) (r : aRw) (x y : aAx) (b : aBd) {m : tMd} {out : Nat → Int64} {rs : tRw} {so : tOb} {tx ty : tAx} {bs : tBd} (hR : LR m rs so tx ty bs) {i : Nat} (hi : i + 5 ≤ L) {kc ks : Nat} (hkc : kc + 5 ≤ 601024) (hks : ks + 30 ≤ 7293034) (kk : lGo p9 l e9 s9 m9 be9 mt9 c9 sc G a g o r x y b i (kc + 5) (ks + 30)) {H : Heap} {locs : List Loc} {ls : Array Slot} (hw : wW G (fun q => s9.heap.size ≤ q) s9.heap (lWd G a g o r x y b m out rs so tx ty bs) H locs) (hl : lv_has ls 7 [(0, .ref sc), (1, .ref o), (2, .ref (a 0)), (3, .ref g), (4, .int (nI i))]) : W p9 l e9 room_1 s9 m9 #[.ref sc] be9 mt9 c9 H locs kc ks (lw_Z be9 #[.ref sc] s9) (F0 m9 248 ls []) := by
  obtain ⟨⟨hx, hb, -, hml, hown, hts0, hX, hbl, hlocks, -⟩, hL, hst, hK, hF, hN⟩ := C9
  have hts : ∀ w ∈ wsL_law, w.before #[Value.ref sc] s9 = true := fun w hw => hts0 w (wsL_law_in w hw)
  have hA : ∀ q : Nat, s9.heap.size ≤ q → (fun q : Nat => s9.heap.size ≤ q) q := fun _ h => h
  have hbA : ¬ (fun q : Nat => s9.heap.size ≤ q) sc := Nat.not_le.mpr hbl
  have hb8 : bs.2.1 ≤ 8 := by rw [hR.2.2.1.1.2.1]; exact hR.2.2.1.1.2.2.1
  have hw : wW G (fun q => s9.heap.size ≤ q) s9.heap (wMd G a m ++ (wLg G g out ++ (wRw G r rs ++ (wOb G (o, x.1, y.1, r.1, b.1) so ++ (wAx G x tx ++ (wAx G y ty ++ (wBd G b bs))))))) H locs := hw
  obtain ⟨hth, hout, hR1⟩ := lm_wish hR (sx (i + 1)) (sx (i + 2)) (sx (i + 3)) (sx (i + 4)) out
  refine lv_aload_n hx hb dL_law_248 rfl (lv_at hl 1 rfl) ?_
  refine lv_aload_n hx hb dL_law_249 rfl (lv_at hl 0 rfl) ?_
  refine lv_iload hx hb dL_law_250 (lv_at hl 4 rfl) ?_
  refine lv_iconst (v := 1) hx hb dL_law_252 (by decide) ?_
  refine lv_iadd hx hb dL_law_253 ?_
  refine r_top (y := nI (i + 1)) (nI_add i 1) ?_
  refine va_sld hx hb hX hbl hbA hw.2.2 (vp_in_nI (show i + 1 < L by omega) (by omega)) dL_law_254 ?_
  refine r_top (y := sx (i + 1)) (congrArg sx (nI_clamp (show i + 1 < 2 ^ 31 by omega))) ?_
  refine lv_aload_n hx hb dL_law_255 rfl (lv_at hl 0 rfl) ?_
  refine lv_iload hx hb dL_law_256 (lv_at hl 4 rfl) ?_
  refine lv_iconst (v := 2) hx hb dL_law_258 (by decide) ?_
  refine lv_iadd hx hb dL_law_259 ?_
  refine r_top (y := nI (i + 2)) (nI_add i 2) ?_
  refine va_sld hx hb hX hbl hbA hw.2.2 (vp_in_nI (show i + 2 < L by omega) (by omega)) dL_law_260 ?_
  refine r_top (y := sx (i + 2)) (congrArg sx (nI_clamp (show i + 2 < 2 ^ 31 by omega))) ?_
  refine lv_aload_n hx hb dL_law_261 rfl (lv_at hl 0 rfl) ?_
  refine lv_iload hx hb dL_law_262 (lv_at hl 4 rfl) ?_
  refine lv_iconst (v := 3) hx hb dL_law_264 (by decide) ?_
  refine lv_iadd hx hb dL_law_265 ?_
  refine r_top (y := nI (i + 3)) (nI_add i 3) ?_
  refine va_sld hx hb hX hbl hbA hw.2.2 (vp_in_nI (show i + 3 < L by omega) (by omega)) dL_law_266 ?_
  refine r_top (y := sx (i + 3)) (congrArg sx (nI_clamp (show i + 3 < 2 ^ 31 by omega))) ?_
  refine lv_aload_n hx hb dL_law_267 rfl (lv_at hl 0 rfl) ?_
  refine lv_iload hx hb dL_law_268 (lv_at hl 4 rfl) ?_
  refine lv_iconst (v := 4) hx hb dL_law_270 (by decide) ?_
  refine lv_iadd hx hb dL_law_271 ?_
  refine r_top (y := nI (i + 4)) (nI_add i 4) ?_
  refine va_sld hx hb hX hbl hbA hw.2.2 (vp_in_nI (show i + 4 < L by omega) (by omega)) dL_law_272 ?_
  refine r_top (y := sx (i + 4)) (congrArg sx (nI_clamp (show i + 4 < 2 ^ 31 by omega))) ?_
  refine lv_aload_n hx hb dL_law_273 rfl (lv_at hl 3 rfl) ?_
  have hwc : wW G (fun q => s9.heap.size ≤ q) s9.heap ((wMd G a m) ++ ((wLg G g out ++ (wRw G r rs ++ (wOb G (o, x.1, y.1, r.1, b.1) so ++ (wAx G x tx ++ (wAx G y ty ++ (wBd G b bs)))))) ++ ([] : va_W))) H locs := hw
  refine r_calli (res := (hcd 1 3 2 (exWish so.1 rs.1 (sx (i + 1)) (sx (i + 2)) (sx (i + 3)) (sx (i + 4))))) (u := wMd G a m) (w := wLg G g out ++ (wRw G r rs ++ (wOb G (o, x.1, y.1, r.1, b.1) so ++ (wAx G x tx ++ (wAx G y ty ++ (wBd G b bs)))))) (v := ([] : va_W)) (vx_runSW (As := [.ref o, .int (sx (i + 1)), .int (sx (i + 2)), .int (sx (i + 3)), .int (sx (i + 4)), .ref g]) (rest := []) ⟨hx, hb, hml, hown, hts⟩ (c_L_wish l G hst X g out r rs so x tx y ty b bs o (sx (i + 1)) (sx (i + 2)) (sx (i + 3)) (sx (i + 4)) (LRs.skOk hR) hb8 hR.2.2.1.2.1 hR.2.2.1.2.2.1 H.size) (vx_cwSW 6 hts gL_law_L_wish rfl rfl rfl (by decide +kernel) ⟨Nat.le_of_ble_eq_true rfl, Nat.le_of_ble_eq_true rfl⟩) (h_preS hK hF hN hA hwc) rfl rfl hl.1 rfl (lv_room (Nat.le_of_ble_eq_true rfl)) dL_law_274 ⟨show kc + 4 ≤ 601024 by omega, show ks + 24 ≤ 7293034 by omega⟩) hwc hA rfl rfl (fun H locs hw => ?_)
  have hw : wW G (fun q => s9.heap.size ≤ q) s9.heap (wMd G a m ++ (wLg G g (xs (exWish so.1 rs.1 (sx (i + 1)) (sx (i + 2)) (sx (i + 3)) (sx (i + 4))) out (vp_updL out 0 (nI rs.1).toInt64)) ++ (wRw G r (xs (exWish so.1 rs.1 (sx (i + 1)) (sx (i + 2)) (sx (i + 3)) (sx (i + 4))) rs (rwWish rs (sx (i + 1)) (sx (i + 2)) (sx (i + 3)) (sx (i + 4)))) ++ (wOb G (o, x.1, y.1, r.1, b.1) (xs (exWish so.1 rs.1 (sx (i + 1)) (sx (i + 2)) (sx (i + 3)) (sx (i + 4))) so (so.1, 0)) ++ (wAx G x tx ++ (wAx G y ty ++ (wBd G b bs))))))) H locs := wW.eq (by generalize exWish so.1 rs.1 (sx (i + 1)) (sx (i + 2)) (sx (i + 3)) (sx (i + 4)) = E9; cases E9 <;> rfl) hw
  refine lv_istore (lv' := [(5, .int (hcd 1 3 2 (exWish so.1 rs.1 (sx (i + 1)) (sx (i + 2)) (sx (i + 3)) (sx (i + 4))))), (0, .ref sc), (1, .ref o), (2, .ref (a 0)), (3, .ref g), (4, .int (nI i))]) hx hb dL_law_277 hl (by decide) rfl (fun ls hl => ?_)
  refine lv_aload_n hx hb dL_law_279 rfl (lv_at hl 3 rfl) ?_
  refine lv_aload_n hx hb dL_law_280 rfl (lv_at hl 1 rfl) ?_
  refine lv_iload hx hb dL_law_281 (lv_at hl 5 rfl) ?_
  refine lv_iconst (v := 1) hx hb dL_law_283 (by decide) ?_
  refine lv_iadd hx hb dL_law_284 ?_
  refine r_top (y := nI (i + 1)) (nI_add i 1) ?_
  refine va_sld hx hb hX hbl hbA hw.2.2 (vp_in_nI (show i + 1 < L by omega) (by omega)) dL_law_285 ?_
  refine r_top (y := sx (i + 1)) (congrArg sx (nI_clamp (show i + 1 < 2 ^ 31 by omega))) ?_
  refine lv_aload_n hx hb dL_law_286 rfl (lv_at hl 1 rfl) ?_
  refine lv_iload hx hb dL_law_287 (lv_at hl 5 rfl) ?_
  refine lv_iconst (v := 2) hx hb dL_law_289 (by decide) ?_
  refine lv_iadd hx hb dL_law_290 ?_
  refine r_top (y := nI (i + 2)) (nI_add i 2) ?_
  refine va_sld hx hb hX hbl hbA hw.2.2 (vp_in_nI (show i + 2 < L by omega) (by omega)) dL_law_291 ?_
  refine r_top (y := sx (i + 2)) (congrArg sx (nI_clamp (show i + 2 < 2 ^ 31 by omega))) ?_
  refine lv_aload_n hx hb dL_law_292 rfl (lv_at hl 1 rfl) ?_
  refine lv_iload hx hb dL_law_293 (lv_at hl 5 rfl) ?_
  refine lv_iconst (v := 3) hx hb dL_law_295 (by decide) ?_
  refine lv_iadd hx hb dL_law_296 ?_
  refine r_top (y := nI (i + 3)) (nI_add i 3) ?_
  refine va_sld hx hb hX hbl hbA hw.2.2 (vp_in_nI (show i + 3 < L by omega) (by omega)) dL_law_297 ?_
  refine r_top (y := sx (i + 3)) (congrArg sx (nI_clamp (show i + 3 < 2 ^ 31 by omega))) ?_
  refine lv_aload_n hx hb dL_law_298 rfl (lv_at hl 1 rfl) ?_
  refine lv_iload hx hb dL_law_299 (lv_at hl 5 rfl) ?_
  refine lv_iconst (v := 4) hx hb dL_law_301 (by decide) ?_
  refine lv_iadd hx hb dL_law_302 ?_
  refine r_top (y := nI (i + 4)) (nI_add i 4) ?_
  refine va_sld hx hb hX hbl hbA hw.2.2 (vp_in_nI (show i + 4 < L by omega) (by omega)) dL_law_303 ?_
  refine r_top (y := sx (i + 4)) (congrArg sx (nI_clamp (show i + 4 < 2 ^ 31 by omega))) ?_
  have hwc : wW G (fun q => s9.heap.size ≤ q) s9.heap (([] : va_W) ++ ((wMd G a m) ++ (wLg G g (xs (exWish so.1 rs.1 (sx (i + 1)) (sx (i + 2)) (sx (i + 3)) (sx (i + 4))) out (vp_updL out 0 (nI rs.1).toInt64)) ++ (wRw G r (xs (exWish so.1 rs.1 (sx (i + 1)) (sx (i + 2)) (sx (i + 3)) (sx (i + 4))) rs (rwWish rs (sx (i + 1)) (sx (i + 2)) (sx (i + 3)) (sx (i + 4)))) ++ (wOb G (o, x.1, y.1, r.1, b.1) (xs (exWish so.1 rs.1 (sx (i + 1)) (sx (i + 2)) (sx (i + 3)) (sx (i + 4))) so (so.1, 0)) ++ (wAx G x tx ++ (wAx G y ty ++ (wBd G b bs)))))))) H locs := hw
  refine r_calli (res := ((mdWish m (sx (i + 1)) (sx (i + 2)) (sx (i + 3)) (sx (i + 4))).1)) (u := ([] : va_W)) (w := wMd G a m) (v := wLg G g (xs (exWish so.1 rs.1 (sx (i + 1)) (sx (i + 2)) (sx (i + 3)) (sx (i + 4))) out (vp_updL out 0 (nI rs.1).toInt64)) ++ (wRw G r (xs (exWish so.1 rs.1 (sx (i + 1)) (sx (i + 2)) (sx (i + 3)) (sx (i + 4))) rs (rwWish rs (sx (i + 1)) (sx (i + 2)) (sx (i + 3)) (sx (i + 4)))) ++ (wOb G (o, x.1, y.1, r.1, b.1) (xs (exWish so.1 rs.1 (sx (i + 1)) (sx (i + 2)) (sx (i + 3)) (sx (i + 4))) so (so.1, 0)) ++ (wAx G x tx ++ (wAx G y ty ++ (wBd G b bs)))))) (va_runV (As := [.int (sx (i + 1)), .int (sx (i + 2)), .int (sx (i + 3)), .int (sx (i + 4))]) (rest := []) ⟨hx, hb, hml, hown, hts⟩ (c_m_wish l G a m (sx (i + 1)) (sx (i + 2)) (sx (i + 3)) (sx (i + 4)) hR.nw.2 H.size) (cwV 4 hts gL_law_X5_wish rfl rfl rfl (by decide +kernel) ⟨Nat.le_of_ble_eq_true rfl, Nat.le_of_ble_eq_true rfl⟩) (r_preV (ci := 5) (q0 := 0) hK hwc rfl rfl rfl) rfl rfl hl.1 rfl (lv_room (Nat.le_of_ble_eq_true rfl)) dL_law_304 ⟨show kc + 4 + 0 ≤ 601024 by omega, show ks + 24 + 0 ≤ 7293034 by omega⟩) hwc hA rfl rfl (fun H locs hw => ?_)
  have hw : wW G (fun q => s9.heap.size ≤ q) s9.heap (wMd G a ((mdWish m (sx (i + 1)) (sx (i + 2)) (sx (i + 3)) (sx (i + 4))).2) ++ (wLg G g (xs (exWish so.1 rs.1 (sx (i + 1)) (sx (i + 2)) (sx (i + 3)) (sx (i + 4))) out (vp_updL out 0 (nI rs.1).toInt64)) ++ (wRw G r (xs (exWish so.1 rs.1 (sx (i + 1)) (sx (i + 2)) (sx (i + 3)) (sx (i + 4))) rs (rwWish rs (sx (i + 1)) (sx (i + 2)) (sx (i + 3)) (sx (i + 4)))) ++ (wOb G (o, x.1, y.1, r.1, b.1) (xs (exWish so.1 rs.1 (sx (i + 1)) (sx (i + 2)) (sx (i + 3)) (sx (i + 4))) so (so.1, 0)) ++ (wAx G x tx ++ (wAx G y ty ++ (wBd G b bs))))))) H locs := hw
  refine lv_istore (lv' := [(6, .int ((mdWish m (sx (i + 1)) (sx (i + 2)) (sx (i + 3)) (sx (i + 4))).1)), (5, .int (hcd 1 3 2 (exWish so.1 rs.1 (sx (i + 1)) (sx (i + 2)) (sx (i + 3)) (sx (i + 4))))), (0, .ref sc), (1, .ref o), (2, .ref (a 0)), (3, .ref g), (4, .int (nI i))]) hx hb dL_law_307 hl (by decide) rfl (fun ls hl => ?_)
  refine lv_aload_n hx hb dL_law_309 rfl (lv_at hl 4 rfl) ?_
  have hwc : wW G (fun q => s9.heap.size ≤ q) s9.heap (([] : va_W) ++ ((wMd G a ((mdWish m (sx (i + 1)) (sx (i + 2)) (sx (i + 3)) (sx (i + 4))).2)) ++ (wLg G g (xs (exWish so.1 rs.1 (sx (i + 1)) (sx (i + 2)) (sx (i + 3)) (sx (i + 4))) out (vp_updL out 0 (nI rs.1).toInt64)) ++ (wRw G r (xs (exWish so.1 rs.1 (sx (i + 1)) (sx (i + 2)) (sx (i + 3)) (sx (i + 4))) rs (rwWish rs (sx (i + 1)) (sx (i + 2)) (sx (i + 3)) (sx (i + 4)))) ++ (wOb G (o, x.1, y.1, r.1, b.1) (xs (exWish so.1 rs.1 (sx (i + 1)) (sx (i + 2)) (sx (i + 3)) (sx (i + 4))) so (so.1, 0)) ++ (wAx G x tx ++ (wAx G y ty ++ (wBd G b bs)))))))) H locs := hw
  refine r_calli (res := (((mdWish m (sx (i + 1)) (sx (i + 2)) (sx (i + 3)) (sx (i + 4))).2).1)) (u := ([] : va_W)) (w := wMd G a ((mdWish m (sx (i + 1)) (sx (i + 2)) (sx (i + 3)) (sx (i + 4))).2)) (v := wLg G g (xs (exWish so.1 rs.1 (sx (i + 1)) (sx (i + 2)) (sx (i + 3)) (sx (i + 4))) out (vp_updL out 0 (nI rs.1).toInt64)) ++ (wRw G r (xs (exWish so.1 rs.1 (sx (i + 1)) (sx (i + 2)) (sx (i + 3)) (sx (i + 4))) rs (rwWish rs (sx (i + 1)) (sx (i + 2)) (sx (i + 3)) (sx (i + 4)))) ++ (wOb G (o, x.1, y.1, r.1, b.1) (xs (exWish so.1 rs.1 (sx (i + 1)) (sx (i + 2)) (sx (i + 3)) (sx (i + 4))) so (so.1, 0)) ++ (wAx G x tx ++ (wAx G y ty ++ (wBd G b bs)))))) (va_runV (As := []) (rest := []) ⟨hx, hb, hml, hown, hts⟩ (c_thrown l G a ((mdWish m (sx (i + 1)) (sx (i + 2)) (sx (i + 3)) (sx (i + 4))).2) H.size) (cwV 0 hts gL_law_X5_thrown rfl rfl rfl (by decide +kernel) ⟨Nat.le_of_ble_eq_true rfl, Nat.le_of_ble_eq_true rfl⟩) (r_preV (ci := 5) (q0 := 0) hK hwc rfl rfl rfl) rfl rfl hl.1 rfl (lv_room (Nat.le_of_ble_eq_true rfl)) dL_law_310 ⟨show kc + 4 + 0 + 0 ≤ 601024 by omega, show ks + 24 + 0 + 0 ≤ 7293034 by omega⟩) hwc hA rfl rfl (fun H locs hw => ?_)
  have hw : wW G (fun q => s9.heap.size ≤ q) s9.heap (wMd G a ((mdWish m (sx (i + 1)) (sx (i + 2)) (sx (i + 3)) (sx (i + 4))).2) ++ (wLg G g (xs (exWish so.1 rs.1 (sx (i + 1)) (sx (i + 2)) (sx (i + 3)) (sx (i + 4))) out (vp_updL out 0 (nI rs.1).toInt64)) ++ (wRw G r (xs (exWish so.1 rs.1 (sx (i + 1)) (sx (i + 2)) (sx (i + 3)) (sx (i + 4))) rs (rwWish rs (sx (i + 1)) (sx (i + 2)) (sx (i + 3)) (sx (i + 4)))) ++ (wOb G (o, x.1, y.1, r.1, b.1) (xs (exWish so.1 rs.1 (sx (i + 1)) (sx (i + 2)) (sx (i + 3)) (sx (i + 4))) so (so.1, 0)) ++ (wAx G x tx ++ (wAx G y ty ++ (wBd G b bs))))))) H locs := hw
  refine lv_iload hx hb dL_law_313 (lv_at hl 1 rfl) ?_
  refine lv_icmp_eq (tgt := 320) hx hb dL_law_315 (by decide) (fun c_315 => ?_) (fun c_315 => ?_)
  · refine lv_iload hx hb dL_law_320 (lv_at hl 1 rfl) ?_
    refine lv_if_ne (tgt := 337) hx hb dL_law_322 (by decide) (fun c_322 => ?_) (fun c_322 => ?_)
    · refine lv_goto (tgt := 1062) hx hb dL_law_337 (by decide) ?_
      exact W.widen (k := kc + 5) (n := ks + 30) (by omega) (by omega) (kk _ _ _ _ _ _ _ _ _ _ hR1 hw (lv_sub hl [2, 3, 4, 5, 6] rfl))
    · have hq := hout c_322
      refine lv_aload_n hx hb dL_law_325 rfl (lv_at hl 5 rfl) ?_
      refine lv_iconst (v := 0) hx hb dL_law_326 (by decide) ?_
      refine r_lald (v := (xs (exWish so.1 rs.1 (sx (i + 1)) (sx (i + 2)) (sx (i + 3)) (sx (i + 4))) out (vp_updL out 0 (nI rs.1).toInt64)) 0) hx hb hK hw 22 rfl 0 rfl (by omega) (by decide) rfl dL_law_327 ?_
      refine lv_iload hx hb dL_law_328 (lv_at hl 0 rfl) ?_
      refine lv_i2l (v := ((mdWish m (sx (i + 1)) (sx (i + 2)) (sx (i + 3)) (sx (i + 4))).1).toInt64) hx hb dL_law_330 rfl ?_
      refine W.lcmp hx hb dL_law_331 ?_
      refine lv_if_eq (tgt := 337) hx hb dL_law_332 (by decide) (fun c_332 => ?_) (fun c_332 => ?_)
      · refine lv_goto (tgt := 1062) hx hb dL_law_337 (by decide) ?_
        exact W.widen (k := kc + 5) (n := ks + 30) (by omega) (by omega) (kk _ _ _ _ _ _ _ _ _ _ hR1 hw (lv_sub hl [2, 3, 4, 5, 6] rfl))
      · exact absurd ((lg_cmp_eq _ _).mpr hq) c_332
  · exact absurd hth c_315

set_option maxHeartbeats 4000000 in
set_option maxRecDepth 100000 in
/-- the law: remove -/
theorem lc_remove {p9 : Program} {l : Launch} {e9 : Env} {s9 : State} {m9 : MethodId} {be9 : List Frame} {mt9 : Method} {c9 : Code} {sc L : Nat} {sx : Nat → Int32} {G : gT} {X : Nat → Nat} (C9 : lC p9 l s9 m9 mt9 c9 sc L sx G X) (a : aMd) (g o : Nat) (r : aRw) (x y : aAx) (b : aBd) {m : tMd} {out : Nat → Int64} {rs : tRw} {so : tOb} {tx ty : tAx} {bs : tBd} (hR : LR m rs so tx ty bs) {i : Nat} (hi : i + 5 ≤ L) {kc ks : Nat} (hkc : kc + 5 ≤ 601024) (hks : ks + 30 ≤ 7293034) (kk : lGo p9 l e9 s9 m9 be9 mt9 c9 sc G a g o r x y b i (kc + 5) (ks + 30)) {H : Heap} {locs : List Loc} {ls : Array Slot} (hw : wW G (fun q => s9.heap.size ≤ q) s9.heap (lWd G a g o r x y b m out rs so tx ty bs) H locs) (hl : lv_has ls 7 [(0, .ref sc), (1, .ref o), (2, .ref (a 0)), (3, .ref g), (4, .int (nI i))]) : W p9 l e9 room_1 s9 m9 #[.ref sc] be9 mt9 c9 H locs kc ks (lw_Z be9 #[.ref sc] s9) (F0 m9 340 ls []) := by
  obtain ⟨⟨hx, hb, -, hml, hown, hts0, hX, hbl, hlocks, -⟩, hL, hst, hK, hF, hN⟩ := C9
  have hts : ∀ w ∈ wsL_law, w.before #[Value.ref sc] s9 = true := fun w hw => hts0 w (wsL_law_in w hw)
  have hA : ∀ q : Nat, s9.heap.size ≤ q → (fun q : Nat => s9.heap.size ≤ q) q := fun _ h => h
  have hbA : ¬ (fun q : Nat => s9.heap.size ≤ q) sc := Nat.not_le.mpr hbl
  have hb8 : bs.2.1 ≤ 8 := by rw [hR.2.2.1.1.2.1]; exact hR.2.2.1.1.2.2.1
  have hw : wW G (fun q => s9.heap.size ≤ q) s9.heap (wMd G a m ++ (wLg G g out ++ (wRw G r rs ++ (wOb G (o, x.1, y.1, r.1, b.1) so ++ (wAx G x tx ++ (wAx G y ty ++ (wBd G b bs))))))) H locs := hw
  obtain ⟨hth, hout, hR1⟩ := lm_remove hR (sx (i + 1)) out
  refine lv_aload_n hx hb dL_law_340 rfl (lv_at hl 1 rfl) ?_
  refine lv_aload_n hx hb dL_law_341 rfl (lv_at hl 0 rfl) ?_
  refine lv_iload hx hb dL_law_342 (lv_at hl 4 rfl) ?_
  refine lv_iconst (v := 1) hx hb dL_law_344 (by decide) ?_
  refine lv_iadd hx hb dL_law_345 ?_
  refine r_top (y := nI (i + 1)) (nI_add i 1) ?_
  refine va_sld hx hb hX hbl hbA hw.2.2 (vp_in_nI (show i + 1 < L by omega) (by omega)) dL_law_346 ?_
  refine r_top (y := sx (i + 1)) (congrArg sx (nI_clamp (show i + 1 < 2 ^ 31 by omega))) ?_
  refine lv_aload_n hx hb dL_law_347 rfl (lv_at hl 3 rfl) ?_
  have hwc : wW G (fun q => s9.heap.size ≤ q) s9.heap ((wMd G a m) ++ ((wLg G g out ++ (wRw G r rs ++ (wOb G (o, x.1, y.1, r.1, b.1) so ++ (wAx G x tx ++ (wAx G y ty ++ (wBd G b bs)))))) ++ ([] : va_W))) H locs := hw
  refine r_calli (res := (hcd 9 9 1 (exIn rs.1 (sx (i + 1))))) (u := wMd G a m) (w := wLg G g out ++ (wRw G r rs ++ (wOb G (o, x.1, y.1, r.1, b.1) so ++ (wAx G x tx ++ (wAx G y ty ++ (wBd G b bs)))))) (v := ([] : va_W)) (vx_runSW (As := [.ref o, .int (sx (i + 1)), .ref g]) (rest := []) ⟨hx, hb, hml, hown, hts⟩ (c_L_remove l G hst X g out r rs so x tx y ty b bs o (sx (i + 1)) (LRs.skOk hR) hb8 hR.2.2.1.2.1 hR.2.2.1.2.2.1 H.size) (vx_cwSW 3 hts gL_law_L_remove rfl rfl rfl (by decide +kernel) ⟨Nat.le_of_ble_eq_true rfl, Nat.le_of_ble_eq_true rfl⟩) (h_preS hK hF hN hA hwc) rfl rfl hl.1 rfl (lv_room (Nat.le_of_ble_eq_true rfl)) dL_law_348 ⟨show kc + 1 ≤ 601024 by omega, show ks + 6 ≤ 7293034 by omega⟩) hwc hA rfl rfl (fun H locs hw => ?_)
  have hw : wW G (fun q => s9.heap.size ≤ q) s9.heap (wMd G a m ++ (wLg G g (xs (exIn rs.1 (sx (i + 1))) out (vp_updL out 0 (skS so rs tx ty (iN (sx (i + 1)))).toInt64)) ++ (wRw G r (xs (exIn rs.1 (sx (i + 1))) rs (rwDrop (rwSt rs (skS so rs tx ty)) (iN (sx (i + 1))))) ++ (wOb G (o, x.1, y.1, r.1, b.1) (xs (exIn rs.1 (sx (i + 1))) so (so.1, 0)) ++ (wAx G x (xs (exIn rs.1 (sx (i + 1))) tx (skX so rs tx ty)) ++ (wAx G y (xs (exIn rs.1 (sx (i + 1))) ty (skY so rs tx ty)) ++ (wBd G b bs))))))) H locs := wW.eq (by generalize exIn rs.1 (sx (i + 1)) = E9; cases E9 <;> rfl) hw
  refine lv_istore (lv' := [(5, .int (hcd 9 9 1 (exIn rs.1 (sx (i + 1))))), (0, .ref sc), (1, .ref o), (2, .ref (a 0)), (3, .ref g), (4, .int (nI i))]) hx hb dL_law_351 hl (by decide) rfl (fun ls hl => ?_)
  refine lv_aload_n hx hb dL_law_353 rfl (lv_at hl 3 rfl) ?_
  refine lv_aload_n hx hb dL_law_354 rfl (lv_at hl 1 rfl) ?_
  refine lv_iload hx hb dL_law_355 (lv_at hl 5 rfl) ?_
  refine lv_iconst (v := 1) hx hb dL_law_357 (by decide) ?_
  refine lv_iadd hx hb dL_law_358 ?_
  refine r_top (y := nI (i + 1)) (nI_add i 1) ?_
  refine va_sld hx hb hX hbl hbA hw.2.2 (vp_in_nI (show i + 1 < L by omega) (by omega)) dL_law_359 ?_
  refine r_top (y := sx (i + 1)) (congrArg sx (nI_clamp (show i + 1 < 2 ^ 31 by omega))) ?_
  have hwc : wW G (fun q => s9.heap.size ≤ q) s9.heap (([] : va_W) ++ ((wMd G a m) ++ (wLg G g (xs (exIn rs.1 (sx (i + 1))) out (vp_updL out 0 (skS so rs tx ty (iN (sx (i + 1)))).toInt64)) ++ (wRw G r (xs (exIn rs.1 (sx (i + 1))) rs (rwDrop (rwSt rs (skS so rs tx ty)) (iN (sx (i + 1))))) ++ (wOb G (o, x.1, y.1, r.1, b.1) (xs (exIn rs.1 (sx (i + 1))) so (so.1, 0)) ++ (wAx G x (xs (exIn rs.1 (sx (i + 1))) tx (skX so rs tx ty)) ++ (wAx G y (xs (exIn rs.1 (sx (i + 1))) ty (skY so rs tx ty)) ++ (wBd G b bs)))))))) H locs := hw
  refine r_calli (res := ((mdRemove m (sx (i + 1))).1)) (u := ([] : va_W)) (w := wMd G a m) (v := wLg G g (xs (exIn rs.1 (sx (i + 1))) out (vp_updL out 0 (skS so rs tx ty (iN (sx (i + 1)))).toInt64)) ++ (wRw G r (xs (exIn rs.1 (sx (i + 1))) rs (rwDrop (rwSt rs (skS so rs tx ty)) (iN (sx (i + 1))))) ++ (wOb G (o, x.1, y.1, r.1, b.1) (xs (exIn rs.1 (sx (i + 1))) so (so.1, 0)) ++ (wAx G x (xs (exIn rs.1 (sx (i + 1))) tx (skX so rs tx ty)) ++ (wAx G y (xs (exIn rs.1 (sx (i + 1))) ty (skY so rs tx ty)) ++ (wBd G b bs)))))) (va_runV (As := [.int (sx (i + 1))]) (rest := []) ⟨hx, hb, hml, hown, hts⟩ (c_m_remove l G a m (sx (i + 1)) (LRs.mdOk hR) hR.2.1.2.2.2.2.2 H.size) (cwV 1 hts gL_law_X5_remove rfl rfl rfl (by decide +kernel) ⟨Nat.le_of_ble_eq_true rfl, Nat.le_of_ble_eq_true rfl⟩) (r_preV (ci := 5) (q0 := 0) hK hwc rfl rfl rfl) rfl rfl hl.1 rfl (lv_room (Nat.le_of_ble_eq_true rfl)) dL_law_360 ⟨show kc + 1 + 0 ≤ 601024 by omega, show ks + 6 + 0 ≤ 7293034 by omega⟩) hwc hA rfl rfl (fun H locs hw => ?_)
  have hw : wW G (fun q => s9.heap.size ≤ q) s9.heap (wMd G a ((mdRemove m (sx (i + 1))).2) ++ (wLg G g (xs (exIn rs.1 (sx (i + 1))) out (vp_updL out 0 (skS so rs tx ty (iN (sx (i + 1)))).toInt64)) ++ (wRw G r (xs (exIn rs.1 (sx (i + 1))) rs (rwDrop (rwSt rs (skS so rs tx ty)) (iN (sx (i + 1))))) ++ (wOb G (o, x.1, y.1, r.1, b.1) (xs (exIn rs.1 (sx (i + 1))) so (so.1, 0)) ++ (wAx G x (xs (exIn rs.1 (sx (i + 1))) tx (skX so rs tx ty)) ++ (wAx G y (xs (exIn rs.1 (sx (i + 1))) ty (skY so rs tx ty)) ++ (wBd G b bs))))))) H locs := hw
  refine lv_istore (lv' := [(6, .int ((mdRemove m (sx (i + 1))).1)), (5, .int (hcd 9 9 1 (exIn rs.1 (sx (i + 1))))), (0, .ref sc), (1, .ref o), (2, .ref (a 0)), (3, .ref g), (4, .int (nI i))]) hx hb dL_law_363 hl (by decide) rfl (fun ls hl => ?_)
  refine lv_aload_n hx hb dL_law_365 rfl (lv_at hl 4 rfl) ?_
  have hwc : wW G (fun q => s9.heap.size ≤ q) s9.heap (([] : va_W) ++ ((wMd G a ((mdRemove m (sx (i + 1))).2)) ++ (wLg G g (xs (exIn rs.1 (sx (i + 1))) out (vp_updL out 0 (skS so rs tx ty (iN (sx (i + 1)))).toInt64)) ++ (wRw G r (xs (exIn rs.1 (sx (i + 1))) rs (rwDrop (rwSt rs (skS so rs tx ty)) (iN (sx (i + 1))))) ++ (wOb G (o, x.1, y.1, r.1, b.1) (xs (exIn rs.1 (sx (i + 1))) so (so.1, 0)) ++ (wAx G x (xs (exIn rs.1 (sx (i + 1))) tx (skX so rs tx ty)) ++ (wAx G y (xs (exIn rs.1 (sx (i + 1))) ty (skY so rs tx ty)) ++ (wBd G b bs)))))))) H locs := hw
  refine r_calli (res := (((mdRemove m (sx (i + 1))).2).1)) (u := ([] : va_W)) (w := wMd G a ((mdRemove m (sx (i + 1))).2)) (v := wLg G g (xs (exIn rs.1 (sx (i + 1))) out (vp_updL out 0 (skS so rs tx ty (iN (sx (i + 1)))).toInt64)) ++ (wRw G r (xs (exIn rs.1 (sx (i + 1))) rs (rwDrop (rwSt rs (skS so rs tx ty)) (iN (sx (i + 1))))) ++ (wOb G (o, x.1, y.1, r.1, b.1) (xs (exIn rs.1 (sx (i + 1))) so (so.1, 0)) ++ (wAx G x (xs (exIn rs.1 (sx (i + 1))) tx (skX so rs tx ty)) ++ (wAx G y (xs (exIn rs.1 (sx (i + 1))) ty (skY so rs tx ty)) ++ (wBd G b bs)))))) (va_runV (As := []) (rest := []) ⟨hx, hb, hml, hown, hts⟩ (c_thrown l G a ((mdRemove m (sx (i + 1))).2) H.size) (cwV 0 hts gL_law_X5_thrown rfl rfl rfl (by decide +kernel) ⟨Nat.le_of_ble_eq_true rfl, Nat.le_of_ble_eq_true rfl⟩) (r_preV (ci := 5) (q0 := 0) hK hwc rfl rfl rfl) rfl rfl hl.1 rfl (lv_room (Nat.le_of_ble_eq_true rfl)) dL_law_366 ⟨show kc + 1 + 0 + 0 ≤ 601024 by omega, show ks + 6 + 0 + 0 ≤ 7293034 by omega⟩) hwc hA rfl rfl (fun H locs hw => ?_)
  have hw : wW G (fun q => s9.heap.size ≤ q) s9.heap (wMd G a ((mdRemove m (sx (i + 1))).2) ++ (wLg G g (xs (exIn rs.1 (sx (i + 1))) out (vp_updL out 0 (skS so rs tx ty (iN (sx (i + 1)))).toInt64)) ++ (wRw G r (xs (exIn rs.1 (sx (i + 1))) rs (rwDrop (rwSt rs (skS so rs tx ty)) (iN (sx (i + 1))))) ++ (wOb G (o, x.1, y.1, r.1, b.1) (xs (exIn rs.1 (sx (i + 1))) so (so.1, 0)) ++ (wAx G x (xs (exIn rs.1 (sx (i + 1))) tx (skX so rs tx ty)) ++ (wAx G y (xs (exIn rs.1 (sx (i + 1))) ty (skY so rs tx ty)) ++ (wBd G b bs))))))) H locs := hw
  refine lv_iload hx hb dL_law_369 (lv_at hl 1 rfl) ?_
  refine lv_icmp_eq (tgt := 376) hx hb dL_law_371 (by decide) (fun c_371 => ?_) (fun c_371 => ?_)
  · refine lv_iload hx hb dL_law_376 (lv_at hl 1 rfl) ?_
    refine lv_if_ne (tgt := 393) hx hb dL_law_378 (by decide) (fun c_378 => ?_) (fun c_378 => ?_)
    · refine lv_goto (tgt := 1062) hx hb dL_law_393 (by decide) ?_
      exact W.widen (k := kc + 5) (n := ks + 30) (by omega) (by omega) (kk _ _ _ _ _ _ _ _ _ _ hR1 hw (lv_sub hl [2, 3, 4, 5, 6] rfl))
    · have hq := hout c_378
      refine lv_aload_n hx hb dL_law_381 rfl (lv_at hl 5 rfl) ?_
      refine lv_iconst (v := 0) hx hb dL_law_382 (by decide) ?_
      refine r_lald (v := (xs (exIn rs.1 (sx (i + 1))) out (vp_updL out 0 (skS so rs tx ty (iN (sx (i + 1)))).toInt64)) 0) hx hb hK hw 22 rfl 0 rfl (by omega) (by decide) rfl dL_law_383 ?_
      refine lv_iload hx hb dL_law_384 (lv_at hl 0 rfl) ?_
      refine lv_i2l (v := ((mdRemove m (sx (i + 1))).1).toInt64) hx hb dL_law_386 rfl ?_
      refine W.lcmp hx hb dL_law_387 ?_
      refine lv_if_eq (tgt := 393) hx hb dL_law_388 (by decide) (fun c_388 => ?_) (fun c_388 => ?_)
      · refine lv_goto (tgt := 1062) hx hb dL_law_393 (by decide) ?_
        exact W.widen (k := kc + 5) (n := ks + 30) (by omega) (by omega) (kk _ _ _ _ _ _ _ _ _ _ hR1 hw (lv_sub hl [2, 3, 4, 5, 6] rfl))
      · exact absurd ((lg_cmp_eq _ _).mpr hq) c_388
  · exact absurd hth c_371

set_option maxHeartbeats 4000000 in
set_option maxRecDepth 100000 in
/-- the law: type -/
theorem lc_type {p9 : Program} {l : Launch} {e9 : Env} {s9 : State} {m9 : MethodId} {be9 : List Frame} {mt9 : Method} {c9 : Code} {sc L : Nat} {sx : Nat → Int32} {G : gT} {X : Nat → Nat} (C9 : lC p9 l s9 m9 mt9 c9 sc L sx G X) (a : aMd) (g o : Nat) (r : aRw) (x y : aAx) (b : aBd) {m : tMd} {out : Nat → Int64} {rs : tRw} {so : tOb} {tx ty : tAx} {bs : tBd} (hR : LR m rs so tx ty bs) {i : Nat} (hi : i + 5 ≤ L) {kc ks : Nat} (hkc : kc + 5 ≤ 601024) (hks : ks + 30 ≤ 7293034) (kk : lGo p9 l e9 s9 m9 be9 mt9 c9 sc G a g o r x y b i (kc + 5) (ks + 30)) {H : Heap} {locs : List Loc} {ls : Array Slot} (hw : wW G (fun q => s9.heap.size ≤ q) s9.heap (lWd G a g o r x y b m out rs so tx ty bs) H locs) (hl : lv_has ls 7 [(0, .ref sc), (1, .ref o), (2, .ref (a 0)), (3, .ref g), (4, .int (nI i))]) : W p9 l e9 room_1 s9 m9 #[.ref sc] be9 mt9 c9 H locs kc ks (lw_Z be9 #[.ref sc] s9) (F0 m9 396 ls []) := by
  obtain ⟨⟨hx, hb, -, hml, hown, hts0, hX, hbl, hlocks, -⟩, hL, hst, hK, hF, hN⟩ := C9
  have hts : ∀ w ∈ wsL_law, w.before #[Value.ref sc] s9 = true := fun w hw => hts0 w (wsL_law_in w hw)
  have hA : ∀ q : Nat, s9.heap.size ≤ q → (fun q : Nat => s9.heap.size ≤ q) q := fun _ h => h
  have hbA : ¬ (fun q : Nat => s9.heap.size ≤ q) sc := Nat.not_le.mpr hbl
  have hb8 : bs.2.1 ≤ 8 := by rw [hR.2.2.1.1.2.1]; exact hR.2.2.1.1.2.2.1
  have hw : wW G (fun q => s9.heap.size ≤ q) s9.heap (wMd G a m ++ (wLg G g out ++ (wRw G r rs ++ (wOb G (o, x.1, y.1, r.1, b.1) so ++ (wAx G x tx ++ (wAx G y ty ++ (wBd G b bs))))))) H locs := hw
  obtain ⟨hth, hout, hR1⟩ := lm_type hR (sx (i + 1)) (sx (i + 2)) out
  refine lv_aload_n hx hb dL_law_396 rfl (lv_at hl 1 rfl) ?_
  refine lv_aload_n hx hb dL_law_397 rfl (lv_at hl 0 rfl) ?_
  refine lv_iload hx hb dL_law_398 (lv_at hl 4 rfl) ?_
  refine lv_iconst (v := 1) hx hb dL_law_400 (by decide) ?_
  refine lv_iadd hx hb dL_law_401 ?_
  refine r_top (y := nI (i + 1)) (nI_add i 1) ?_
  refine va_sld hx hb hX hbl hbA hw.2.2 (vp_in_nI (show i + 1 < L by omega) (by omega)) dL_law_402 ?_
  refine r_top (y := sx (i + 1)) (congrArg sx (nI_clamp (show i + 1 < 2 ^ 31 by omega))) ?_
  refine lv_aload_n hx hb dL_law_403 rfl (lv_at hl 0 rfl) ?_
  refine lv_iload hx hb dL_law_404 (lv_at hl 4 rfl) ?_
  refine lv_iconst (v := 2) hx hb dL_law_406 (by decide) ?_
  refine lv_iadd hx hb dL_law_407 ?_
  refine r_top (y := nI (i + 2)) (nI_add i 2) ?_
  refine va_sld hx hb hX hbl hbA hw.2.2 (vp_in_nI (show i + 2 < L by omega) (by omega)) dL_law_408 ?_
  refine r_top (y := sx (i + 2)) (congrArg sx (nI_clamp (show i + 2 < 2 ^ 31 by omega))) ?_
  refine lv_aload_n hx hb dL_law_409 rfl (lv_at hl 3 rfl) ?_
  have hwc : wW G (fun q => s9.heap.size ≤ q) s9.heap ((wMd G a m) ++ ((wLg G g out ++ (wRw G r rs ++ (wOb G (o, x.1, y.1, r.1, b.1) so ++ (wAx G x tx ++ (wAx G y ty ++ (wBd G b bs)))))) ++ ([] : va_W))) H locs := hw
  refine r_calli (res := (hcd 3 2 1 (exType rs.1 rs.2.1 (sx (i + 1)) (sx (i + 2))))) (u := wMd G a m) (w := wLg G g out ++ (wRw G r rs ++ (wOb G (o, x.1, y.1, r.1, b.1) so ++ (wAx G x tx ++ (wAx G y ty ++ (wBd G b bs)))))) (v := ([] : va_W)) (vx_runSW (As := [.ref o, .int (sx (i + 1)), .int (sx (i + 2)), .ref g]) (rest := []) ⟨hx, hb, hml, hown, hts⟩ (c_L_type l G hst X g out r rs so x tx y ty b bs o (sx (i + 1)) (sx (i + 2)) (LRs.skOk hR) hb8 hR.2.2.1.2.1 hR.2.2.1.2.2.1 H.size) (vx_cwSW 4 hts gL_law_L_type rfl rfl rfl (by decide +kernel) ⟨Nat.le_of_ble_eq_true rfl, Nat.le_of_ble_eq_true rfl⟩) (h_preS hK hF hN hA hwc) rfl rfl hl.1 rfl (lv_room (Nat.le_of_ble_eq_true rfl)) dL_law_410 ⟨show kc + 3 ≤ 601024 by omega, show ks + 18 ≤ 7293034 by omega⟩) hwc hA rfl rfl (fun H locs hw => ?_)
  have hw : wW G (fun q => s9.heap.size ≤ q) s9.heap (wMd G a m ++ (wLg G g (xs (exType rs.1 rs.2.1 (sx (i + 1)) (sx (i + 2))) out (vp_updL out 0 (rs.2.2.2.2.1 (iN (sx (i + 1)))).toInt64)) ++ (wRw G r (xs (exType rs.1 rs.2.1 (sx (i + 1)) (sx (i + 2))) rs (rs.1, rs.2.1, rs.2.2.1, rs.2.2.2.1, (upd rs.2.2.2.2.1 (iN (sx (i + 1))) (sx (i + 2))), rs.2.2.2.2.2.1, rs.2.2.2.2.2.2)) ++ (wOb G (o, x.1, y.1, r.1, b.1) (xs (exType rs.1 rs.2.1 (sx (i + 1)) (sx (i + 2))) so (so.1, 0)) ++ (wAx G x tx ++ (wAx G y ty ++ (wBd G b bs))))))) H locs := wW.eq (by generalize exType rs.1 rs.2.1 (sx (i + 1)) (sx (i + 2)) = E9; cases E9 <;> rfl) hw
  refine lv_istore (lv' := [(5, .int (hcd 3 2 1 (exType rs.1 rs.2.1 (sx (i + 1)) (sx (i + 2))))), (0, .ref sc), (1, .ref o), (2, .ref (a 0)), (3, .ref g), (4, .int (nI i))]) hx hb dL_law_413 hl (by decide) rfl (fun ls hl => ?_)
  refine lv_aload_n hx hb dL_law_415 rfl (lv_at hl 3 rfl) ?_
  refine lv_aload_n hx hb dL_law_416 rfl (lv_at hl 1 rfl) ?_
  refine lv_iload hx hb dL_law_417 (lv_at hl 5 rfl) ?_
  refine lv_iconst (v := 1) hx hb dL_law_419 (by decide) ?_
  refine lv_iadd hx hb dL_law_420 ?_
  refine r_top (y := nI (i + 1)) (nI_add i 1) ?_
  refine va_sld hx hb hX hbl hbA hw.2.2 (vp_in_nI (show i + 1 < L by omega) (by omega)) dL_law_421 ?_
  refine r_top (y := sx (i + 1)) (congrArg sx (nI_clamp (show i + 1 < 2 ^ 31 by omega))) ?_
  refine lv_aload_n hx hb dL_law_422 rfl (lv_at hl 1 rfl) ?_
  refine lv_iload hx hb dL_law_423 (lv_at hl 5 rfl) ?_
  refine lv_iconst (v := 2) hx hb dL_law_425 (by decide) ?_
  refine lv_iadd hx hb dL_law_426 ?_
  refine r_top (y := nI (i + 2)) (nI_add i 2) ?_
  refine va_sld hx hb hX hbl hbA hw.2.2 (vp_in_nI (show i + 2 < L by omega) (by omega)) dL_law_427 ?_
  refine r_top (y := sx (i + 2)) (congrArg sx (nI_clamp (show i + 2 < 2 ^ 31 by omega))) ?_
  have hwc : wW G (fun q => s9.heap.size ≤ q) s9.heap (([] : va_W) ++ ((wMd G a m) ++ (wLg G g (xs (exType rs.1 rs.2.1 (sx (i + 1)) (sx (i + 2))) out (vp_updL out 0 (rs.2.2.2.2.1 (iN (sx (i + 1)))).toInt64)) ++ (wRw G r (xs (exType rs.1 rs.2.1 (sx (i + 1)) (sx (i + 2))) rs (rs.1, rs.2.1, rs.2.2.1, rs.2.2.2.1, (upd rs.2.2.2.2.1 (iN (sx (i + 1))) (sx (i + 2))), rs.2.2.2.2.2.1, rs.2.2.2.2.2.2)) ++ (wOb G (o, x.1, y.1, r.1, b.1) (xs (exType rs.1 rs.2.1 (sx (i + 1)) (sx (i + 2))) so (so.1, 0)) ++ (wAx G x tx ++ (wAx G y ty ++ (wBd G b bs)))))))) H locs := hw
  refine r_calli (res := ((mdType m (sx (i + 1)) (sx (i + 2))).1)) (u := ([] : va_W)) (w := wMd G a m) (v := wLg G g (xs (exType rs.1 rs.2.1 (sx (i + 1)) (sx (i + 2))) out (vp_updL out 0 (rs.2.2.2.2.1 (iN (sx (i + 1)))).toInt64)) ++ (wRw G r (xs (exType rs.1 rs.2.1 (sx (i + 1)) (sx (i + 2))) rs (rs.1, rs.2.1, rs.2.2.1, rs.2.2.2.1, (upd rs.2.2.2.2.1 (iN (sx (i + 1))) (sx (i + 2))), rs.2.2.2.2.2.1, rs.2.2.2.2.2.2)) ++ (wOb G (o, x.1, y.1, r.1, b.1) (xs (exType rs.1 rs.2.1 (sx (i + 1)) (sx (i + 2))) so (so.1, 0)) ++ (wAx G x tx ++ (wAx G y ty ++ (wBd G b bs)))))) (va_runV (As := [.int (sx (i + 1)), .int (sx (i + 2))]) (rest := []) ⟨hx, hb, hml, hown, hts⟩ (c_m_type l G a m (sx (i + 1)) (sx (i + 2)) hR.nw.2 H.size) (cwV 2 hts gL_law_X5_type rfl rfl rfl (by decide +kernel) ⟨Nat.le_of_ble_eq_true rfl, Nat.le_of_ble_eq_true rfl⟩) (r_preV (ci := 5) (q0 := 0) hK hwc rfl rfl rfl) rfl rfl hl.1 rfl (lv_room (Nat.le_of_ble_eq_true rfl)) dL_law_428 ⟨show kc + 3 + 0 ≤ 601024 by omega, show ks + 18 + 0 ≤ 7293034 by omega⟩) hwc hA rfl rfl (fun H locs hw => ?_)
  have hw : wW G (fun q => s9.heap.size ≤ q) s9.heap (wMd G a ((mdType m (sx (i + 1)) (sx (i + 2))).2) ++ (wLg G g (xs (exType rs.1 rs.2.1 (sx (i + 1)) (sx (i + 2))) out (vp_updL out 0 (rs.2.2.2.2.1 (iN (sx (i + 1)))).toInt64)) ++ (wRw G r (xs (exType rs.1 rs.2.1 (sx (i + 1)) (sx (i + 2))) rs (rs.1, rs.2.1, rs.2.2.1, rs.2.2.2.1, (upd rs.2.2.2.2.1 (iN (sx (i + 1))) (sx (i + 2))), rs.2.2.2.2.2.1, rs.2.2.2.2.2.2)) ++ (wOb G (o, x.1, y.1, r.1, b.1) (xs (exType rs.1 rs.2.1 (sx (i + 1)) (sx (i + 2))) so (so.1, 0)) ++ (wAx G x tx ++ (wAx G y ty ++ (wBd G b bs))))))) H locs := hw
  refine lv_istore (lv' := [(6, .int ((mdType m (sx (i + 1)) (sx (i + 2))).1)), (5, .int (hcd 3 2 1 (exType rs.1 rs.2.1 (sx (i + 1)) (sx (i + 2))))), (0, .ref sc), (1, .ref o), (2, .ref (a 0)), (3, .ref g), (4, .int (nI i))]) hx hb dL_law_431 hl (by decide) rfl (fun ls hl => ?_)
  refine lv_aload_n hx hb dL_law_433 rfl (lv_at hl 4 rfl) ?_
  have hwc : wW G (fun q => s9.heap.size ≤ q) s9.heap (([] : va_W) ++ ((wMd G a ((mdType m (sx (i + 1)) (sx (i + 2))).2)) ++ (wLg G g (xs (exType rs.1 rs.2.1 (sx (i + 1)) (sx (i + 2))) out (vp_updL out 0 (rs.2.2.2.2.1 (iN (sx (i + 1)))).toInt64)) ++ (wRw G r (xs (exType rs.1 rs.2.1 (sx (i + 1)) (sx (i + 2))) rs (rs.1, rs.2.1, rs.2.2.1, rs.2.2.2.1, (upd rs.2.2.2.2.1 (iN (sx (i + 1))) (sx (i + 2))), rs.2.2.2.2.2.1, rs.2.2.2.2.2.2)) ++ (wOb G (o, x.1, y.1, r.1, b.1) (xs (exType rs.1 rs.2.1 (sx (i + 1)) (sx (i + 2))) so (so.1, 0)) ++ (wAx G x tx ++ (wAx G y ty ++ (wBd G b bs)))))))) H locs := hw
  refine r_calli (res := (((mdType m (sx (i + 1)) (sx (i + 2))).2).1)) (u := ([] : va_W)) (w := wMd G a ((mdType m (sx (i + 1)) (sx (i + 2))).2)) (v := wLg G g (xs (exType rs.1 rs.2.1 (sx (i + 1)) (sx (i + 2))) out (vp_updL out 0 (rs.2.2.2.2.1 (iN (sx (i + 1)))).toInt64)) ++ (wRw G r (xs (exType rs.1 rs.2.1 (sx (i + 1)) (sx (i + 2))) rs (rs.1, rs.2.1, rs.2.2.1, rs.2.2.2.1, (upd rs.2.2.2.2.1 (iN (sx (i + 1))) (sx (i + 2))), rs.2.2.2.2.2.1, rs.2.2.2.2.2.2)) ++ (wOb G (o, x.1, y.1, r.1, b.1) (xs (exType rs.1 rs.2.1 (sx (i + 1)) (sx (i + 2))) so (so.1, 0)) ++ (wAx G x tx ++ (wAx G y ty ++ (wBd G b bs)))))) (va_runV (As := []) (rest := []) ⟨hx, hb, hml, hown, hts⟩ (c_thrown l G a ((mdType m (sx (i + 1)) (sx (i + 2))).2) H.size) (cwV 0 hts gL_law_X5_thrown rfl rfl rfl (by decide +kernel) ⟨Nat.le_of_ble_eq_true rfl, Nat.le_of_ble_eq_true rfl⟩) (r_preV (ci := 5) (q0 := 0) hK hwc rfl rfl rfl) rfl rfl hl.1 rfl (lv_room (Nat.le_of_ble_eq_true rfl)) dL_law_434 ⟨show kc + 3 + 0 + 0 ≤ 601024 by omega, show ks + 18 + 0 + 0 ≤ 7293034 by omega⟩) hwc hA rfl rfl (fun H locs hw => ?_)
  have hw : wW G (fun q => s9.heap.size ≤ q) s9.heap (wMd G a ((mdType m (sx (i + 1)) (sx (i + 2))).2) ++ (wLg G g (xs (exType rs.1 rs.2.1 (sx (i + 1)) (sx (i + 2))) out (vp_updL out 0 (rs.2.2.2.2.1 (iN (sx (i + 1)))).toInt64)) ++ (wRw G r (xs (exType rs.1 rs.2.1 (sx (i + 1)) (sx (i + 2))) rs (rs.1, rs.2.1, rs.2.2.1, rs.2.2.2.1, (upd rs.2.2.2.2.1 (iN (sx (i + 1))) (sx (i + 2))), rs.2.2.2.2.2.1, rs.2.2.2.2.2.2)) ++ (wOb G (o, x.1, y.1, r.1, b.1) (xs (exType rs.1 rs.2.1 (sx (i + 1)) (sx (i + 2))) so (so.1, 0)) ++ (wAx G x tx ++ (wAx G y ty ++ (wBd G b bs))))))) H locs := hw
  refine lv_iload hx hb dL_law_437 (lv_at hl 1 rfl) ?_
  refine lv_icmp_eq (tgt := 444) hx hb dL_law_439 (by decide) (fun c_439 => ?_) (fun c_439 => ?_)
  · refine lv_iload hx hb dL_law_444 (lv_at hl 1 rfl) ?_
    refine lv_if_ne (tgt := 461) hx hb dL_law_446 (by decide) (fun c_446 => ?_) (fun c_446 => ?_)
    · refine lv_goto (tgt := 1062) hx hb dL_law_461 (by decide) ?_
      exact W.widen (k := kc + 5) (n := ks + 30) (by omega) (by omega) (kk _ _ _ _ _ _ _ _ _ _ hR1 hw (lv_sub hl [2, 3, 4, 5, 6] rfl))
    · have hq := hout c_446
      refine lv_aload_n hx hb dL_law_449 rfl (lv_at hl 5 rfl) ?_
      refine lv_iconst (v := 0) hx hb dL_law_450 (by decide) ?_
      refine r_lald (v := (xs (exType rs.1 rs.2.1 (sx (i + 1)) (sx (i + 2))) out (vp_updL out 0 (rs.2.2.2.2.1 (iN (sx (i + 1)))).toInt64)) 0) hx hb hK hw 22 rfl 0 rfl (by omega) (by decide) rfl dL_law_451 ?_
      refine lv_iload hx hb dL_law_452 (lv_at hl 0 rfl) ?_
      refine lv_i2l (v := ((mdType m (sx (i + 1)) (sx (i + 2))).1).toInt64) hx hb dL_law_454 rfl ?_
      refine W.lcmp hx hb dL_law_455 ?_
      refine lv_if_eq (tgt := 461) hx hb dL_law_456 (by decide) (fun c_456 => ?_) (fun c_456 => ?_)
      · refine lv_goto (tgt := 1062) hx hb dL_law_461 (by decide) ?_
        exact W.widen (k := kc + 5) (n := ks + 30) (by omega) (by omega) (kk _ _ _ _ _ _ _ _ _ _ hR1 hw (lv_sub hl [2, 3, 4, 5, 6] rfl))
      · exact absurd ((lg_cmp_eq _ _).mpr hq) c_456
  · exact absurd hth c_439

set_option maxHeartbeats 4000000 in
set_option maxRecDepth 100000 in
/-- the law: state -/
theorem lc_state {p9 : Program} {l : Launch} {e9 : Env} {s9 : State} {m9 : MethodId} {be9 : List Frame} {mt9 : Method} {c9 : Code} {sc L : Nat} {sx : Nat → Int32} {G : gT} {X : Nat → Nat} (C9 : lC p9 l s9 m9 mt9 c9 sc L sx G X) (a : aMd) (g o : Nat) (r : aRw) (x y : aAx) (b : aBd) {m : tMd} {out : Nat → Int64} {rs : tRw} {so : tOb} {tx ty : tAx} {bs : tBd} (hR : LR m rs so tx ty bs) {i : Nat} (hi : i + 5 ≤ L) {kc ks : Nat} (hkc : kc + 5 ≤ 601024) (hks : ks + 30 ≤ 7293034) (kk : lGo p9 l e9 s9 m9 be9 mt9 c9 sc G a g o r x y b i (kc + 5) (ks + 30)) {H : Heap} {locs : List Loc} {ls : Array Slot} (hw : wW G (fun q => s9.heap.size ≤ q) s9.heap (lWd G a g o r x y b m out rs so tx ty bs) H locs) (hl : lv_has ls 7 [(0, .ref sc), (1, .ref o), (2, .ref (a 0)), (3, .ref g), (4, .int (nI i))]) : W p9 l e9 room_1 s9 m9 #[.ref sc] be9 mt9 c9 H locs kc ks (lw_Z be9 #[.ref sc] s9) (F0 m9 464 ls []) := by
  obtain ⟨⟨hx, hb, -, hml, hown, hts0, hX, hbl, hlocks, -⟩, hL, hst, hK, hF, hN⟩ := C9
  have hts : ∀ w ∈ wsL_law, w.before #[Value.ref sc] s9 = true := fun w hw => hts0 w (wsL_law_in w hw)
  have hA : ∀ q : Nat, s9.heap.size ≤ q → (fun q : Nat => s9.heap.size ≤ q) q := fun _ h => h
  have hbA : ¬ (fun q : Nat => s9.heap.size ≤ q) sc := Nat.not_le.mpr hbl
  have hb8 : bs.2.1 ≤ 8 := by rw [hR.2.2.1.1.2.1]; exact hR.2.2.1.1.2.2.1
  have hw : wW G (fun q => s9.heap.size ≤ q) s9.heap (wMd G a m ++ (wLg G g out ++ (wRw G r rs ++ (wOb G (o, x.1, y.1, r.1, b.1) so ++ (wAx G x tx ++ (wAx G y ty ++ (wBd G b bs))))))) H locs := hw
  obtain ⟨hth, hout, hR1⟩ := lm_state hR (sx (i + 1)) out
  refine lv_aload_n hx hb dL_law_464 rfl (lv_at hl 1 rfl) ?_
  refine lv_aload_n hx hb dL_law_465 rfl (lv_at hl 0 rfl) ?_
  refine lv_iload hx hb dL_law_466 (lv_at hl 4 rfl) ?_
  refine lv_iconst (v := 1) hx hb dL_law_468 (by decide) ?_
  refine lv_iadd hx hb dL_law_469 ?_
  refine r_top (y := nI (i + 1)) (nI_add i 1) ?_
  refine va_sld hx hb hX hbl hbA hw.2.2 (vp_in_nI (show i + 1 < L by omega) (by omega)) dL_law_470 ?_
  refine r_top (y := sx (i + 1)) (congrArg sx (nI_clamp (show i + 1 < 2 ^ 31 by omega))) ?_
  refine lv_aload_n hx hb dL_law_471 rfl (lv_at hl 3 rfl) ?_
  have hwc : wW G (fun q => s9.heap.size ≤ q) s9.heap ((wMd G a m) ++ ((wLg G g out ++ (wRw G r rs ++ (wOb G (o, x.1, y.1, r.1, b.1) so ++ (wAx G x tx ++ (wAx G y ty ++ (wBd G b bs)))))) ++ ([] : va_W))) H locs := hw
  refine r_calli (res := (hcd 9 9 1 (exIn rs.1 (sx (i + 1))))) (u := wMd G a m) (w := wLg G g out ++ (wRw G r rs ++ (wOb G (o, x.1, y.1, r.1, b.1) so ++ (wAx G x tx ++ (wAx G y ty ++ (wBd G b bs)))))) (v := ([] : va_W)) (vx_runSW (As := [.ref o, .int (sx (i + 1)), .ref g]) (rest := []) ⟨hx, hb, hml, hown, hts⟩ (c_L_state l G hst X g out r rs so x tx y ty b bs o (sx (i + 1)) (LRs.skOk hR) hb8 hR.2.2.1.2.1 hR.2.2.1.2.2.1 H.size) (vx_cwSW 3 hts gL_law_L_state rfl rfl rfl (by decide +kernel) ⟨Nat.le_of_ble_eq_true rfl, Nat.le_of_ble_eq_true rfl⟩) (h_preS hK hF hN hA hwc) rfl rfl hl.1 rfl (lv_room (Nat.le_of_ble_eq_true rfl)) dL_law_472 ⟨show kc + 1 ≤ 601024 by omega, show ks + 6 ≤ 7293034 by omega⟩) hwc hA rfl rfl (fun H locs hw => ?_)
  have hw : wW G (fun q => s9.heap.size ≤ q) s9.heap (wMd G a m ++ (wLg G g (xs (exIn rs.1 (sx (i + 1))) out (vp_updL out 0 (skS so rs tx ty (iN (sx (i + 1)))).toInt64)) ++ (wRw G r (xs (exIn rs.1 (sx (i + 1))) rs (rs.1, rs.2.1, rs.2.2.1, rs.2.2.2.1, rs.2.2.2.2.1, (skS so rs tx ty), rs.2.2.2.2.2.2)) ++ (wOb G (o, x.1, y.1, r.1, b.1) (xs (exIn rs.1 (sx (i + 1))) so (so.1, skF so)) ++ (wAx G x (xs (exIn rs.1 (sx (i + 1))) tx (skX so rs tx ty)) ++ (wAx G y (xs (exIn rs.1 (sx (i + 1))) ty (skY so rs tx ty)) ++ (wBd G b bs))))))) H locs := wW.eq (by generalize exIn rs.1 (sx (i + 1)) = E9; cases E9 <;> rfl) hw
  refine lv_istore (lv' := [(5, .int (hcd 9 9 1 (exIn rs.1 (sx (i + 1))))), (0, .ref sc), (1, .ref o), (2, .ref (a 0)), (3, .ref g), (4, .int (nI i))]) hx hb dL_law_475 hl (by decide) rfl (fun ls hl => ?_)
  refine lv_aload_n hx hb dL_law_477 rfl (lv_at hl 3 rfl) ?_
  refine lv_aload_n hx hb dL_law_478 rfl (lv_at hl 1 rfl) ?_
  refine lv_iload hx hb dL_law_479 (lv_at hl 5 rfl) ?_
  refine lv_iconst (v := 1) hx hb dL_law_481 (by decide) ?_
  refine lv_iadd hx hb dL_law_482 ?_
  refine r_top (y := nI (i + 1)) (nI_add i 1) ?_
  refine va_sld hx hb hX hbl hbA hw.2.2 (vp_in_nI (show i + 1 < L by omega) (by omega)) dL_law_483 ?_
  refine r_top (y := sx (i + 1)) (congrArg sx (nI_clamp (show i + 1 < 2 ^ 31 by omega))) ?_
  have hwc : wW G (fun q => s9.heap.size ≤ q) s9.heap (([] : va_W) ++ ((wMd G a m) ++ (wLg G g (xs (exIn rs.1 (sx (i + 1))) out (vp_updL out 0 (skS so rs tx ty (iN (sx (i + 1)))).toInt64)) ++ (wRw G r (xs (exIn rs.1 (sx (i + 1))) rs (rs.1, rs.2.1, rs.2.2.1, rs.2.2.2.1, rs.2.2.2.2.1, (skS so rs tx ty), rs.2.2.2.2.2.2)) ++ (wOb G (o, x.1, y.1, r.1, b.1) (xs (exIn rs.1 (sx (i + 1))) so (so.1, skF so)) ++ (wAx G x (xs (exIn rs.1 (sx (i + 1))) tx (skX so rs tx ty)) ++ (wAx G y (xs (exIn rs.1 (sx (i + 1))) ty (skY so rs tx ty)) ++ (wBd G b bs)))))))) H locs := hw
  refine r_calli (res := ((mdState m (sx (i + 1))).1)) (u := ([] : va_W)) (w := wMd G a m) (v := wLg G g (xs (exIn rs.1 (sx (i + 1))) out (vp_updL out 0 (skS so rs tx ty (iN (sx (i + 1)))).toInt64)) ++ (wRw G r (xs (exIn rs.1 (sx (i + 1))) rs (rs.1, rs.2.1, rs.2.2.1, rs.2.2.2.1, rs.2.2.2.2.1, (skS so rs tx ty), rs.2.2.2.2.2.2)) ++ (wOb G (o, x.1, y.1, r.1, b.1) (xs (exIn rs.1 (sx (i + 1))) so (so.1, skF so)) ++ (wAx G x (xs (exIn rs.1 (sx (i + 1))) tx (skX so rs tx ty)) ++ (wAx G y (xs (exIn rs.1 (sx (i + 1))) ty (skY so rs tx ty)) ++ (wBd G b bs)))))) (va_runV (As := [.int (sx (i + 1))]) (rest := []) ⟨hx, hb, hml, hown, hts⟩ (c_m_state l G a m (sx (i + 1)) (LRs.mdOk hR) hR.nw.2 H.size) (cwV 1 hts gL_law_X5_state rfl rfl rfl (by decide +kernel) ⟨Nat.le_of_ble_eq_true rfl, Nat.le_of_ble_eq_true rfl⟩) (r_preV (ci := 5) (q0 := 0) hK hwc rfl rfl rfl) rfl rfl hl.1 rfl (lv_room (Nat.le_of_ble_eq_true rfl)) dL_law_484 ⟨show kc + 1 + 0 ≤ 601024 by omega, show ks + 6 + 0 ≤ 7293034 by omega⟩) hwc hA rfl rfl (fun H locs hw => ?_)
  have hw : wW G (fun q => s9.heap.size ≤ q) s9.heap (wMd G a ((mdState m (sx (i + 1))).2) ++ (wLg G g (xs (exIn rs.1 (sx (i + 1))) out (vp_updL out 0 (skS so rs tx ty (iN (sx (i + 1)))).toInt64)) ++ (wRw G r (xs (exIn rs.1 (sx (i + 1))) rs (rs.1, rs.2.1, rs.2.2.1, rs.2.2.2.1, rs.2.2.2.2.1, (skS so rs tx ty), rs.2.2.2.2.2.2)) ++ (wOb G (o, x.1, y.1, r.1, b.1) (xs (exIn rs.1 (sx (i + 1))) so (so.1, skF so)) ++ (wAx G x (xs (exIn rs.1 (sx (i + 1))) tx (skX so rs tx ty)) ++ (wAx G y (xs (exIn rs.1 (sx (i + 1))) ty (skY so rs tx ty)) ++ (wBd G b bs))))))) H locs := hw
  refine lv_istore (lv' := [(6, .int ((mdState m (sx (i + 1))).1)), (5, .int (hcd 9 9 1 (exIn rs.1 (sx (i + 1))))), (0, .ref sc), (1, .ref o), (2, .ref (a 0)), (3, .ref g), (4, .int (nI i))]) hx hb dL_law_487 hl (by decide) rfl (fun ls hl => ?_)
  refine lv_aload_n hx hb dL_law_489 rfl (lv_at hl 4 rfl) ?_
  have hwc : wW G (fun q => s9.heap.size ≤ q) s9.heap (([] : va_W) ++ ((wMd G a ((mdState m (sx (i + 1))).2)) ++ (wLg G g (xs (exIn rs.1 (sx (i + 1))) out (vp_updL out 0 (skS so rs tx ty (iN (sx (i + 1)))).toInt64)) ++ (wRw G r (xs (exIn rs.1 (sx (i + 1))) rs (rs.1, rs.2.1, rs.2.2.1, rs.2.2.2.1, rs.2.2.2.2.1, (skS so rs tx ty), rs.2.2.2.2.2.2)) ++ (wOb G (o, x.1, y.1, r.1, b.1) (xs (exIn rs.1 (sx (i + 1))) so (so.1, skF so)) ++ (wAx G x (xs (exIn rs.1 (sx (i + 1))) tx (skX so rs tx ty)) ++ (wAx G y (xs (exIn rs.1 (sx (i + 1))) ty (skY so rs tx ty)) ++ (wBd G b bs)))))))) H locs := hw
  refine r_calli (res := (((mdState m (sx (i + 1))).2).1)) (u := ([] : va_W)) (w := wMd G a ((mdState m (sx (i + 1))).2)) (v := wLg G g (xs (exIn rs.1 (sx (i + 1))) out (vp_updL out 0 (skS so rs tx ty (iN (sx (i + 1)))).toInt64)) ++ (wRw G r (xs (exIn rs.1 (sx (i + 1))) rs (rs.1, rs.2.1, rs.2.2.1, rs.2.2.2.1, rs.2.2.2.2.1, (skS so rs tx ty), rs.2.2.2.2.2.2)) ++ (wOb G (o, x.1, y.1, r.1, b.1) (xs (exIn rs.1 (sx (i + 1))) so (so.1, skF so)) ++ (wAx G x (xs (exIn rs.1 (sx (i + 1))) tx (skX so rs tx ty)) ++ (wAx G y (xs (exIn rs.1 (sx (i + 1))) ty (skY so rs tx ty)) ++ (wBd G b bs)))))) (va_runV (As := []) (rest := []) ⟨hx, hb, hml, hown, hts⟩ (c_thrown l G a ((mdState m (sx (i + 1))).2) H.size) (cwV 0 hts gL_law_X5_thrown rfl rfl rfl (by decide +kernel) ⟨Nat.le_of_ble_eq_true rfl, Nat.le_of_ble_eq_true rfl⟩) (r_preV (ci := 5) (q0 := 0) hK hwc rfl rfl rfl) rfl rfl hl.1 rfl (lv_room (Nat.le_of_ble_eq_true rfl)) dL_law_490 ⟨show kc + 1 + 0 + 0 ≤ 601024 by omega, show ks + 6 + 0 + 0 ≤ 7293034 by omega⟩) hwc hA rfl rfl (fun H locs hw => ?_)
  have hw : wW G (fun q => s9.heap.size ≤ q) s9.heap (wMd G a ((mdState m (sx (i + 1))).2) ++ (wLg G g (xs (exIn rs.1 (sx (i + 1))) out (vp_updL out 0 (skS so rs tx ty (iN (sx (i + 1)))).toInt64)) ++ (wRw G r (xs (exIn rs.1 (sx (i + 1))) rs (rs.1, rs.2.1, rs.2.2.1, rs.2.2.2.1, rs.2.2.2.2.1, (skS so rs tx ty), rs.2.2.2.2.2.2)) ++ (wOb G (o, x.1, y.1, r.1, b.1) (xs (exIn rs.1 (sx (i + 1))) so (so.1, skF so)) ++ (wAx G x (xs (exIn rs.1 (sx (i + 1))) tx (skX so rs tx ty)) ++ (wAx G y (xs (exIn rs.1 (sx (i + 1))) ty (skY so rs tx ty)) ++ (wBd G b bs))))))) H locs := hw
  refine lv_iload hx hb dL_law_493 (lv_at hl 1 rfl) ?_
  refine lv_icmp_eq (tgt := 500) hx hb dL_law_495 (by decide) (fun c_495 => ?_) (fun c_495 => ?_)
  · refine lv_iload hx hb dL_law_500 (lv_at hl 1 rfl) ?_
    refine lv_if_ne (tgt := 517) hx hb dL_law_502 (by decide) (fun c_502 => ?_) (fun c_502 => ?_)
    · refine lv_goto (tgt := 1062) hx hb dL_law_517 (by decide) ?_
      exact W.widen (k := kc + 5) (n := ks + 30) (by omega) (by omega) (kk _ _ _ _ _ _ _ _ _ _ hR1 hw (lv_sub hl [2, 3, 4, 5, 6] rfl))
    · have hq := hout c_502
      refine lv_aload_n hx hb dL_law_505 rfl (lv_at hl 5 rfl) ?_
      refine lv_iconst (v := 0) hx hb dL_law_506 (by decide) ?_
      refine r_lald (v := (xs (exIn rs.1 (sx (i + 1))) out (vp_updL out 0 (skS so rs tx ty (iN (sx (i + 1)))).toInt64)) 0) hx hb hK hw 22 rfl 0 rfl (by omega) (by decide) rfl dL_law_507 ?_
      refine lv_iload hx hb dL_law_508 (lv_at hl 0 rfl) ?_
      refine lv_i2l (v := ((mdState m (sx (i + 1))).1).toInt64) hx hb dL_law_510 rfl ?_
      refine W.lcmp hx hb dL_law_511 ?_
      refine lv_if_eq (tgt := 517) hx hb dL_law_512 (by decide) (fun c_512 => ?_) (fun c_512 => ?_)
      · refine lv_goto (tgt := 1062) hx hb dL_law_517 (by decide) ?_
        exact W.widen (k := kc + 5) (n := ks + 30) (by omega) (by omega) (kk _ _ _ _ _ _ _ _ _ _ hR1 hw (lv_sub hl [2, 3, 4, 5, 6] rfl))
      · exact absurd ((lg_cmp_eq _ _).mpr hq) c_512
  · exact absurd hth c_495

set_option maxHeartbeats 4000000 in
set_option maxRecDepth 100000 in
/-- the law: x -/
theorem lc_x {p9 : Program} {l : Launch} {e9 : Env} {s9 : State} {m9 : MethodId} {be9 : List Frame} {mt9 : Method} {c9 : Code} {sc L : Nat} {sx : Nat → Int32} {G : gT} {X : Nat → Nat} (C9 : lC p9 l s9 m9 mt9 c9 sc L sx G X) (a : aMd) (g o : Nat) (r : aRw) (x y : aAx) (b : aBd) {m : tMd} {out : Nat → Int64} {rs : tRw} {so : tOb} {tx ty : tAx} {bs : tBd} (hR : LR m rs so tx ty bs) {i : Nat} (hi : i + 5 ≤ L) {kc ks : Nat} (hkc : kc + 5 ≤ 601024) (hks : ks + 30 ≤ 7293034) (kk : lGo p9 l e9 s9 m9 be9 mt9 c9 sc G a g o r x y b i (kc + 5) (ks + 30)) {H : Heap} {locs : List Loc} {ls : Array Slot} (hw : wW G (fun q => s9.heap.size ≤ q) s9.heap (lWd G a g o r x y b m out rs so tx ty bs) H locs) (hl : lv_has ls 7 [(0, .ref sc), (1, .ref o), (2, .ref (a 0)), (3, .ref g), (4, .int (nI i))]) : W p9 l e9 room_1 s9 m9 #[.ref sc] be9 mt9 c9 H locs kc ks (lw_Z be9 #[.ref sc] s9) (F0 m9 546 ls []) := by
  obtain ⟨⟨hx, hb, -, hml, hown, hts0, hX, hbl, hlocks, -⟩, hL, hst, hK, hF, hN⟩ := C9
  have hts : ∀ w ∈ wsL_law, w.before #[Value.ref sc] s9 = true := fun w hw => hts0 w (wsL_law_in w hw)
  have hA : ∀ q : Nat, s9.heap.size ≤ q → (fun q : Nat => s9.heap.size ≤ q) q := fun _ h => h
  have hbA : ¬ (fun q : Nat => s9.heap.size ≤ q) sc := Nat.not_le.mpr hbl
  have hb8 : bs.2.1 ≤ 8 := by rw [hR.2.2.1.1.2.1]; exact hR.2.2.1.1.2.2.1
  have hw : wW G (fun q => s9.heap.size ≤ q) s9.heap (wMd G a m ++ (wLg G g out ++ (wRw G r rs ++ (wOb G (o, x.1, y.1, r.1, b.1) so ++ (wAx G x tx ++ (wAx G y ty ++ (wBd G b bs))))))) H locs := hw
  obtain ⟨hth, hout, hR1⟩ := lm_x hR (sx (i + 1)) out
  refine lv_aload_n hx hb dL_law_546 rfl (lv_at hl 1 rfl) ?_
  refine lv_aload_n hx hb dL_law_547 rfl (lv_at hl 0 rfl) ?_
  refine lv_iload hx hb dL_law_548 (lv_at hl 4 rfl) ?_
  refine lv_iconst (v := 1) hx hb dL_law_550 (by decide) ?_
  refine lv_iadd hx hb dL_law_551 ?_
  refine r_top (y := nI (i + 1)) (nI_add i 1) ?_
  refine va_sld hx hb hX hbl hbA hw.2.2 (vp_in_nI (show i + 1 < L by omega) (by omega)) dL_law_552 ?_
  refine r_top (y := sx (i + 1)) (congrArg sx (nI_clamp (show i + 1 < 2 ^ 31 by omega))) ?_
  refine lv_aload_n hx hb dL_law_553 rfl (lv_at hl 3 rfl) ?_
  have hwc : wW G (fun q => s9.heap.size ≤ q) s9.heap ((wMd G a m) ++ ((wLg G g out ++ (wRw G r rs ++ (wOb G (o, x.1, y.1, r.1, b.1) so ++ (wAx G x tx ++ (wAx G y ty ++ (wBd G b bs)))))) ++ ([] : va_W))) H locs := hw
  refine r_calli (res := (hcd 9 9 1 (exIn so.1 (sx (i + 1))))) (u := wMd G a m) (w := wLg G g out ++ (wRw G r rs ++ (wOb G (o, x.1, y.1, r.1, b.1) so ++ (wAx G x tx ++ (wAx G y ty ++ (wBd G b bs)))))) (v := ([] : va_W)) (vx_runSW (As := [.ref o, .int (sx (i + 1)), .ref g]) (rest := []) ⟨hx, hb, hml, hown, hts⟩ (c_L_x l G hst X g out r rs so x tx y ty b bs o (sx (i + 1)) (LRs.skOk hR) hb8 hR.2.2.1.2.1 hR.2.2.1.2.2.1 H.size) (vx_cwSW 3 hts gL_law_L_x rfl rfl rfl (by decide +kernel) ⟨Nat.le_of_ble_eq_true rfl, Nat.le_of_ble_eq_true rfl⟩) (h_preS hK hF hN hA hwc) rfl rfl hl.1 rfl (lv_room (Nat.le_of_ble_eq_true rfl)) dL_law_554 ⟨show kc + 1 ≤ 601024 by omega, show ks + 6 ≤ 7293034 by omega⟩) hwc hA rfl rfl (fun H locs hw => ?_)
  have hw : wW G (fun q => s9.heap.size ≤ q) s9.heap (wMd G a m ++ (wLg G g (xs (exIn so.1 (sx (i + 1))) out (vp_updL out 0 (axPl (skX so rs tx ty) (iN (sx (i + 1)))).toInt64)) ++ (wRw G r (xs (exIn so.1 (sx (i + 1))) rs (rs.1, rs.2.1, rs.2.2.1, rs.2.2.2.1, rs.2.2.2.2.1, (skS so rs tx ty), rs.2.2.2.2.2.2)) ++ (wOb G (o, x.1, y.1, r.1, b.1) (xs (exIn so.1 (sx (i + 1))) so (so.1, skF so)) ++ (wAx G x (xs (exIn so.1 (sx (i + 1))) tx (skX so rs tx ty)) ++ (wAx G y (xs (exIn so.1 (sx (i + 1))) ty (skY so rs tx ty)) ++ (wBd G b bs))))))) H locs := wW.eq (by generalize exIn so.1 (sx (i + 1)) = E9; cases E9 <;> rfl) hw
  refine lv_istore (lv' := [(5, .int (hcd 9 9 1 (exIn so.1 (sx (i + 1))))), (0, .ref sc), (1, .ref o), (2, .ref (a 0)), (3, .ref g), (4, .int (nI i))]) hx hb dL_law_557 hl (by decide) rfl (fun ls hl => ?_)
  refine lv_aload_n hx hb dL_law_559 rfl (lv_at hl 3 rfl) ?_
  refine lv_aload_n hx hb dL_law_560 rfl (lv_at hl 1 rfl) ?_
  refine lv_iload hx hb dL_law_561 (lv_at hl 5 rfl) ?_
  refine lv_iconst (v := 1) hx hb dL_law_563 (by decide) ?_
  refine lv_iadd hx hb dL_law_564 ?_
  refine r_top (y := nI (i + 1)) (nI_add i 1) ?_
  refine va_sld hx hb hX hbl hbA hw.2.2 (vp_in_nI (show i + 1 < L by omega) (by omega)) dL_law_565 ?_
  refine r_top (y := sx (i + 1)) (congrArg sx (nI_clamp (show i + 1 < 2 ^ 31 by omega))) ?_
  have hwc : wW G (fun q => s9.heap.size ≤ q) s9.heap (([] : va_W) ++ ((wMd G a m) ++ (wLg G g (xs (exIn so.1 (sx (i + 1))) out (vp_updL out 0 (axPl (skX so rs tx ty) (iN (sx (i + 1)))).toInt64)) ++ (wRw G r (xs (exIn so.1 (sx (i + 1))) rs (rs.1, rs.2.1, rs.2.2.1, rs.2.2.2.1, rs.2.2.2.2.1, (skS so rs tx ty), rs.2.2.2.2.2.2)) ++ (wOb G (o, x.1, y.1, r.1, b.1) (xs (exIn so.1 (sx (i + 1))) so (so.1, skF so)) ++ (wAx G x (xs (exIn so.1 (sx (i + 1))) tx (skX so rs tx ty)) ++ (wAx G y (xs (exIn so.1 (sx (i + 1))) ty (skY so rs tx ty)) ++ (wBd G b bs)))))))) H locs := hw
  refine r_calli (res := ((mdXy 0 m (sx (i + 1))).1)) (u := ([] : va_W)) (w := wMd G a m) (v := wLg G g (xs (exIn so.1 (sx (i + 1))) out (vp_updL out 0 (axPl (skX so rs tx ty) (iN (sx (i + 1)))).toInt64)) ++ (wRw G r (xs (exIn so.1 (sx (i + 1))) rs (rs.1, rs.2.1, rs.2.2.1, rs.2.2.2.1, rs.2.2.2.2.1, (skS so rs tx ty), rs.2.2.2.2.2.2)) ++ (wOb G (o, x.1, y.1, r.1, b.1) (xs (exIn so.1 (sx (i + 1))) so (so.1, skF so)) ++ (wAx G x (xs (exIn so.1 (sx (i + 1))) tx (skX so rs tx ty)) ++ (wAx G y (xs (exIn so.1 (sx (i + 1))) ty (skY so rs tx ty)) ++ (wBd G b bs)))))) (va_runV (As := [.int (sx (i + 1))]) (rest := []) ⟨hx, hb, hml, hown, hts⟩ (c_m_x l G a m (sx (i + 1)) (LRs.mdOk hR) hR.np.2 H.size) (cwV 1 hts gL_law_X5_x rfl rfl rfl (by decide +kernel) ⟨Nat.le_of_ble_eq_true rfl, Nat.le_of_ble_eq_true rfl⟩) (r_preV (ci := 5) (q0 := 0) hK hwc rfl rfl rfl) rfl rfl hl.1 rfl (lv_room (Nat.le_of_ble_eq_true rfl)) dL_law_566 ⟨show kc + 1 + 0 ≤ 601024 by omega, show ks + 6 + 0 ≤ 7293034 by omega⟩) hwc hA rfl rfl (fun H locs hw => ?_)
  have hw : wW G (fun q => s9.heap.size ≤ q) s9.heap (wMd G a ((mdXy 0 m (sx (i + 1))).2) ++ (wLg G g (xs (exIn so.1 (sx (i + 1))) out (vp_updL out 0 (axPl (skX so rs tx ty) (iN (sx (i + 1)))).toInt64)) ++ (wRw G r (xs (exIn so.1 (sx (i + 1))) rs (rs.1, rs.2.1, rs.2.2.1, rs.2.2.2.1, rs.2.2.2.2.1, (skS so rs tx ty), rs.2.2.2.2.2.2)) ++ (wOb G (o, x.1, y.1, r.1, b.1) (xs (exIn so.1 (sx (i + 1))) so (so.1, skF so)) ++ (wAx G x (xs (exIn so.1 (sx (i + 1))) tx (skX so rs tx ty)) ++ (wAx G y (xs (exIn so.1 (sx (i + 1))) ty (skY so rs tx ty)) ++ (wBd G b bs))))))) H locs := hw
  refine lv_istore (lv' := [(6, .int ((mdXy 0 m (sx (i + 1))).1)), (5, .int (hcd 9 9 1 (exIn so.1 (sx (i + 1))))), (0, .ref sc), (1, .ref o), (2, .ref (a 0)), (3, .ref g), (4, .int (nI i))]) hx hb dL_law_569 hl (by decide) rfl (fun ls hl => ?_)
  refine lv_aload_n hx hb dL_law_571 rfl (lv_at hl 4 rfl) ?_
  have hwc : wW G (fun q => s9.heap.size ≤ q) s9.heap (([] : va_W) ++ ((wMd G a ((mdXy 0 m (sx (i + 1))).2)) ++ (wLg G g (xs (exIn so.1 (sx (i + 1))) out (vp_updL out 0 (axPl (skX so rs tx ty) (iN (sx (i + 1)))).toInt64)) ++ (wRw G r (xs (exIn so.1 (sx (i + 1))) rs (rs.1, rs.2.1, rs.2.2.1, rs.2.2.2.1, rs.2.2.2.2.1, (skS so rs tx ty), rs.2.2.2.2.2.2)) ++ (wOb G (o, x.1, y.1, r.1, b.1) (xs (exIn so.1 (sx (i + 1))) so (so.1, skF so)) ++ (wAx G x (xs (exIn so.1 (sx (i + 1))) tx (skX so rs tx ty)) ++ (wAx G y (xs (exIn so.1 (sx (i + 1))) ty (skY so rs tx ty)) ++ (wBd G b bs)))))))) H locs := hw
  refine r_calli (res := (((mdXy 0 m (sx (i + 1))).2).1)) (u := ([] : va_W)) (w := wMd G a ((mdXy 0 m (sx (i + 1))).2)) (v := wLg G g (xs (exIn so.1 (sx (i + 1))) out (vp_updL out 0 (axPl (skX so rs tx ty) (iN (sx (i + 1)))).toInt64)) ++ (wRw G r (xs (exIn so.1 (sx (i + 1))) rs (rs.1, rs.2.1, rs.2.2.1, rs.2.2.2.1, rs.2.2.2.2.1, (skS so rs tx ty), rs.2.2.2.2.2.2)) ++ (wOb G (o, x.1, y.1, r.1, b.1) (xs (exIn so.1 (sx (i + 1))) so (so.1, skF so)) ++ (wAx G x (xs (exIn so.1 (sx (i + 1))) tx (skX so rs tx ty)) ++ (wAx G y (xs (exIn so.1 (sx (i + 1))) ty (skY so rs tx ty)) ++ (wBd G b bs)))))) (va_runV (As := []) (rest := []) ⟨hx, hb, hml, hown, hts⟩ (c_thrown l G a ((mdXy 0 m (sx (i + 1))).2) H.size) (cwV 0 hts gL_law_X5_thrown rfl rfl rfl (by decide +kernel) ⟨Nat.le_of_ble_eq_true rfl, Nat.le_of_ble_eq_true rfl⟩) (r_preV (ci := 5) (q0 := 0) hK hwc rfl rfl rfl) rfl rfl hl.1 rfl (lv_room (Nat.le_of_ble_eq_true rfl)) dL_law_572 ⟨show kc + 1 + 0 + 0 ≤ 601024 by omega, show ks + 6 + 0 + 0 ≤ 7293034 by omega⟩) hwc hA rfl rfl (fun H locs hw => ?_)
  have hw : wW G (fun q => s9.heap.size ≤ q) s9.heap (wMd G a ((mdXy 0 m (sx (i + 1))).2) ++ (wLg G g (xs (exIn so.1 (sx (i + 1))) out (vp_updL out 0 (axPl (skX so rs tx ty) (iN (sx (i + 1)))).toInt64)) ++ (wRw G r (xs (exIn so.1 (sx (i + 1))) rs (rs.1, rs.2.1, rs.2.2.1, rs.2.2.2.1, rs.2.2.2.2.1, (skS so rs tx ty), rs.2.2.2.2.2.2)) ++ (wOb G (o, x.1, y.1, r.1, b.1) (xs (exIn so.1 (sx (i + 1))) so (so.1, skF so)) ++ (wAx G x (xs (exIn so.1 (sx (i + 1))) tx (skX so rs tx ty)) ++ (wAx G y (xs (exIn so.1 (sx (i + 1))) ty (skY so rs tx ty)) ++ (wBd G b bs))))))) H locs := hw
  refine lv_iload hx hb dL_law_575 (lv_at hl 1 rfl) ?_
  refine lv_icmp_eq (tgt := 582) hx hb dL_law_577 (by decide) (fun c_577 => ?_) (fun c_577 => ?_)
  · refine lv_iload hx hb dL_law_582 (lv_at hl 1 rfl) ?_
    refine lv_if_ne (tgt := 599) hx hb dL_law_584 (by decide) (fun c_584 => ?_) (fun c_584 => ?_)
    · refine lv_goto (tgt := 1062) hx hb dL_law_599 (by decide) ?_
      exact W.widen (k := kc + 5) (n := ks + 30) (by omega) (by omega) (kk _ _ _ _ _ _ _ _ _ _ hR1 hw (lv_sub hl [2, 3, 4, 5, 6] rfl))
    · have hq := hout c_584
      refine lv_aload_n hx hb dL_law_587 rfl (lv_at hl 5 rfl) ?_
      refine lv_iconst (v := 0) hx hb dL_law_588 (by decide) ?_
      refine r_lald (v := (xs (exIn so.1 (sx (i + 1))) out (vp_updL out 0 (axPl (skX so rs tx ty) (iN (sx (i + 1)))).toInt64)) 0) hx hb hK hw 22 rfl 0 rfl (by omega) (by decide) rfl dL_law_589 ?_
      refine lv_iload hx hb dL_law_590 (lv_at hl 0 rfl) ?_
      refine lv_i2l (v := ((mdXy 0 m (sx (i + 1))).1).toInt64) hx hb dL_law_592 rfl ?_
      refine W.lcmp hx hb dL_law_593 ?_
      refine lv_if_eq (tgt := 599) hx hb dL_law_594 (by decide) (fun c_594 => ?_) (fun c_594 => ?_)
      · refine lv_goto (tgt := 1062) hx hb dL_law_599 (by decide) ?_
        exact W.widen (k := kc + 5) (n := ks + 30) (by omega) (by omega) (kk _ _ _ _ _ _ _ _ _ _ hR1 hw (lv_sub hl [2, 3, 4, 5, 6] rfl))
      · exact absurd ((lg_cmp_eq _ _).mpr hq) c_594
  · exact absurd hth c_577

set_option maxHeartbeats 4000000 in
set_option maxRecDepth 100000 in
/-- the law: y -/
theorem lc_y {p9 : Program} {l : Launch} {e9 : Env} {s9 : State} {m9 : MethodId} {be9 : List Frame} {mt9 : Method} {c9 : Code} {sc L : Nat} {sx : Nat → Int32} {G : gT} {X : Nat → Nat} (C9 : lC p9 l s9 m9 mt9 c9 sc L sx G X) (a : aMd) (g o : Nat) (r : aRw) (x y : aAx) (b : aBd) {m : tMd} {out : Nat → Int64} {rs : tRw} {so : tOb} {tx ty : tAx} {bs : tBd} (hR : LR m rs so tx ty bs) {i : Nat} (hi : i + 5 ≤ L) {kc ks : Nat} (hkc : kc + 5 ≤ 601024) (hks : ks + 30 ≤ 7293034) (kk : lGo p9 l e9 s9 m9 be9 mt9 c9 sc G a g o r x y b i (kc + 5) (ks + 30)) {H : Heap} {locs : List Loc} {ls : Array Slot} (hw : wW G (fun q => s9.heap.size ≤ q) s9.heap (lWd G a g o r x y b m out rs so tx ty bs) H locs) (hl : lv_has ls 7 [(0, .ref sc), (1, .ref o), (2, .ref (a 0)), (3, .ref g), (4, .int (nI i))]) : W p9 l e9 room_1 s9 m9 #[.ref sc] be9 mt9 c9 H locs kc ks (lw_Z be9 #[.ref sc] s9) (F0 m9 602 ls []) := by
  obtain ⟨⟨hx, hb, -, hml, hown, hts0, hX, hbl, hlocks, -⟩, hL, hst, hK, hF, hN⟩ := C9
  have hts : ∀ w ∈ wsL_law, w.before #[Value.ref sc] s9 = true := fun w hw => hts0 w (wsL_law_in w hw)
  have hA : ∀ q : Nat, s9.heap.size ≤ q → (fun q : Nat => s9.heap.size ≤ q) q := fun _ h => h
  have hbA : ¬ (fun q : Nat => s9.heap.size ≤ q) sc := Nat.not_le.mpr hbl
  have hb8 : bs.2.1 ≤ 8 := by rw [hR.2.2.1.1.2.1]; exact hR.2.2.1.1.2.2.1
  have hw : wW G (fun q => s9.heap.size ≤ q) s9.heap (wMd G a m ++ (wLg G g out ++ (wRw G r rs ++ (wOb G (o, x.1, y.1, r.1, b.1) so ++ (wAx G x tx ++ (wAx G y ty ++ (wBd G b bs))))))) H locs := hw
  obtain ⟨hth, hout, hR1⟩ := lm_y hR (sx (i + 1)) out
  refine lv_aload_n hx hb dL_law_602 rfl (lv_at hl 1 rfl) ?_
  refine lv_aload_n hx hb dL_law_603 rfl (lv_at hl 0 rfl) ?_
  refine lv_iload hx hb dL_law_604 (lv_at hl 4 rfl) ?_
  refine lv_iconst (v := 1) hx hb dL_law_606 (by decide) ?_
  refine lv_iadd hx hb dL_law_607 ?_
  refine r_top (y := nI (i + 1)) (nI_add i 1) ?_
  refine va_sld hx hb hX hbl hbA hw.2.2 (vp_in_nI (show i + 1 < L by omega) (by omega)) dL_law_608 ?_
  refine r_top (y := sx (i + 1)) (congrArg sx (nI_clamp (show i + 1 < 2 ^ 31 by omega))) ?_
  refine lv_aload_n hx hb dL_law_609 rfl (lv_at hl 3 rfl) ?_
  have hwc : wW G (fun q => s9.heap.size ≤ q) s9.heap ((wMd G a m) ++ ((wLg G g out ++ (wRw G r rs ++ (wOb G (o, x.1, y.1, r.1, b.1) so ++ (wAx G x tx ++ (wAx G y ty ++ (wBd G b bs)))))) ++ ([] : va_W))) H locs := hw
  refine r_calli (res := (hcd 9 9 1 (exIn so.1 (sx (i + 1))))) (u := wMd G a m) (w := wLg G g out ++ (wRw G r rs ++ (wOb G (o, x.1, y.1, r.1, b.1) so ++ (wAx G x tx ++ (wAx G y ty ++ (wBd G b bs)))))) (v := ([] : va_W)) (vx_runSW (As := [.ref o, .int (sx (i + 1)), .ref g]) (rest := []) ⟨hx, hb, hml, hown, hts⟩ (c_L_y l G hst X g out r rs so x tx y ty b bs o (sx (i + 1)) (LRs.skOk hR) hb8 hR.2.2.1.2.1 hR.2.2.1.2.2.1 H.size) (vx_cwSW 3 hts gL_law_L_y rfl rfl rfl (by decide +kernel) ⟨Nat.le_of_ble_eq_true rfl, Nat.le_of_ble_eq_true rfl⟩) (h_preS hK hF hN hA hwc) rfl rfl hl.1 rfl (lv_room (Nat.le_of_ble_eq_true rfl)) dL_law_610 ⟨show kc + 1 ≤ 601024 by omega, show ks + 6 ≤ 7293034 by omega⟩) hwc hA rfl rfl (fun H locs hw => ?_)
  have hw : wW G (fun q => s9.heap.size ≤ q) s9.heap (wMd G a m ++ (wLg G g (xs (exIn so.1 (sx (i + 1))) out (vp_updL out 0 (axPl (skY so rs tx ty) (iN (sx (i + 1)))).toInt64)) ++ (wRw G r (xs (exIn so.1 (sx (i + 1))) rs (rs.1, rs.2.1, rs.2.2.1, rs.2.2.2.1, rs.2.2.2.2.1, (skS so rs tx ty), rs.2.2.2.2.2.2)) ++ (wOb G (o, x.1, y.1, r.1, b.1) (xs (exIn so.1 (sx (i + 1))) so (so.1, skF so)) ++ (wAx G x (xs (exIn so.1 (sx (i + 1))) tx (skX so rs tx ty)) ++ (wAx G y (xs (exIn so.1 (sx (i + 1))) ty (skY so rs tx ty)) ++ (wBd G b bs))))))) H locs := wW.eq (by generalize exIn so.1 (sx (i + 1)) = E9; cases E9 <;> rfl) hw
  refine lv_istore (lv' := [(5, .int (hcd 9 9 1 (exIn so.1 (sx (i + 1))))), (0, .ref sc), (1, .ref o), (2, .ref (a 0)), (3, .ref g), (4, .int (nI i))]) hx hb dL_law_613 hl (by decide) rfl (fun ls hl => ?_)
  refine lv_aload_n hx hb dL_law_615 rfl (lv_at hl 3 rfl) ?_
  refine lv_aload_n hx hb dL_law_616 rfl (lv_at hl 1 rfl) ?_
  refine lv_iload hx hb dL_law_617 (lv_at hl 5 rfl) ?_
  refine lv_iconst (v := 1) hx hb dL_law_619 (by decide) ?_
  refine lv_iadd hx hb dL_law_620 ?_
  refine r_top (y := nI (i + 1)) (nI_add i 1) ?_
  refine va_sld hx hb hX hbl hbA hw.2.2 (vp_in_nI (show i + 1 < L by omega) (by omega)) dL_law_621 ?_
  refine r_top (y := sx (i + 1)) (congrArg sx (nI_clamp (show i + 1 < 2 ^ 31 by omega))) ?_
  have hwc : wW G (fun q => s9.heap.size ≤ q) s9.heap (([] : va_W) ++ ((wMd G a m) ++ (wLg G g (xs (exIn so.1 (sx (i + 1))) out (vp_updL out 0 (axPl (skY so rs tx ty) (iN (sx (i + 1)))).toInt64)) ++ (wRw G r (xs (exIn so.1 (sx (i + 1))) rs (rs.1, rs.2.1, rs.2.2.1, rs.2.2.2.1, rs.2.2.2.2.1, (skS so rs tx ty), rs.2.2.2.2.2.2)) ++ (wOb G (o, x.1, y.1, r.1, b.1) (xs (exIn so.1 (sx (i + 1))) so (so.1, skF so)) ++ (wAx G x (xs (exIn so.1 (sx (i + 1))) tx (skX so rs tx ty)) ++ (wAx G y (xs (exIn so.1 (sx (i + 1))) ty (skY so rs tx ty)) ++ (wBd G b bs)))))))) H locs := hw
  refine r_calli (res := ((mdXy 1 m (sx (i + 1))).1)) (u := ([] : va_W)) (w := wMd G a m) (v := wLg G g (xs (exIn so.1 (sx (i + 1))) out (vp_updL out 0 (axPl (skY so rs tx ty) (iN (sx (i + 1)))).toInt64)) ++ (wRw G r (xs (exIn so.1 (sx (i + 1))) rs (rs.1, rs.2.1, rs.2.2.1, rs.2.2.2.1, rs.2.2.2.2.1, (skS so rs tx ty), rs.2.2.2.2.2.2)) ++ (wOb G (o, x.1, y.1, r.1, b.1) (xs (exIn so.1 (sx (i + 1))) so (so.1, skF so)) ++ (wAx G x (xs (exIn so.1 (sx (i + 1))) tx (skX so rs tx ty)) ++ (wAx G y (xs (exIn so.1 (sx (i + 1))) ty (skY so rs tx ty)) ++ (wBd G b bs)))))) (va_runV (As := [.int (sx (i + 1))]) (rest := []) ⟨hx, hb, hml, hown, hts⟩ (c_m_y l G a m (sx (i + 1)) (LRs.mdOk hR) hR.np.2 H.size) (cwV 1 hts gL_law_X5_y rfl rfl rfl (by decide +kernel) ⟨Nat.le_of_ble_eq_true rfl, Nat.le_of_ble_eq_true rfl⟩) (r_preV (ci := 5) (q0 := 0) hK hwc rfl rfl rfl) rfl rfl hl.1 rfl (lv_room (Nat.le_of_ble_eq_true rfl)) dL_law_622 ⟨show kc + 1 + 0 ≤ 601024 by omega, show ks + 6 + 0 ≤ 7293034 by omega⟩) hwc hA rfl rfl (fun H locs hw => ?_)
  have hw : wW G (fun q => s9.heap.size ≤ q) s9.heap (wMd G a ((mdXy 1 m (sx (i + 1))).2) ++ (wLg G g (xs (exIn so.1 (sx (i + 1))) out (vp_updL out 0 (axPl (skY so rs tx ty) (iN (sx (i + 1)))).toInt64)) ++ (wRw G r (xs (exIn so.1 (sx (i + 1))) rs (rs.1, rs.2.1, rs.2.2.1, rs.2.2.2.1, rs.2.2.2.2.1, (skS so rs tx ty), rs.2.2.2.2.2.2)) ++ (wOb G (o, x.1, y.1, r.1, b.1) (xs (exIn so.1 (sx (i + 1))) so (so.1, skF so)) ++ (wAx G x (xs (exIn so.1 (sx (i + 1))) tx (skX so rs tx ty)) ++ (wAx G y (xs (exIn so.1 (sx (i + 1))) ty (skY so rs tx ty)) ++ (wBd G b bs))))))) H locs := hw
  refine lv_istore (lv' := [(6, .int ((mdXy 1 m (sx (i + 1))).1)), (5, .int (hcd 9 9 1 (exIn so.1 (sx (i + 1))))), (0, .ref sc), (1, .ref o), (2, .ref (a 0)), (3, .ref g), (4, .int (nI i))]) hx hb dL_law_625 hl (by decide) rfl (fun ls hl => ?_)
  refine lv_aload_n hx hb dL_law_627 rfl (lv_at hl 4 rfl) ?_
  have hwc : wW G (fun q => s9.heap.size ≤ q) s9.heap (([] : va_W) ++ ((wMd G a ((mdXy 1 m (sx (i + 1))).2)) ++ (wLg G g (xs (exIn so.1 (sx (i + 1))) out (vp_updL out 0 (axPl (skY so rs tx ty) (iN (sx (i + 1)))).toInt64)) ++ (wRw G r (xs (exIn so.1 (sx (i + 1))) rs (rs.1, rs.2.1, rs.2.2.1, rs.2.2.2.1, rs.2.2.2.2.1, (skS so rs tx ty), rs.2.2.2.2.2.2)) ++ (wOb G (o, x.1, y.1, r.1, b.1) (xs (exIn so.1 (sx (i + 1))) so (so.1, skF so)) ++ (wAx G x (xs (exIn so.1 (sx (i + 1))) tx (skX so rs tx ty)) ++ (wAx G y (xs (exIn so.1 (sx (i + 1))) ty (skY so rs tx ty)) ++ (wBd G b bs)))))))) H locs := hw
  refine r_calli (res := (((mdXy 1 m (sx (i + 1))).2).1)) (u := ([] : va_W)) (w := wMd G a ((mdXy 1 m (sx (i + 1))).2)) (v := wLg G g (xs (exIn so.1 (sx (i + 1))) out (vp_updL out 0 (axPl (skY so rs tx ty) (iN (sx (i + 1)))).toInt64)) ++ (wRw G r (xs (exIn so.1 (sx (i + 1))) rs (rs.1, rs.2.1, rs.2.2.1, rs.2.2.2.1, rs.2.2.2.2.1, (skS so rs tx ty), rs.2.2.2.2.2.2)) ++ (wOb G (o, x.1, y.1, r.1, b.1) (xs (exIn so.1 (sx (i + 1))) so (so.1, skF so)) ++ (wAx G x (xs (exIn so.1 (sx (i + 1))) tx (skX so rs tx ty)) ++ (wAx G y (xs (exIn so.1 (sx (i + 1))) ty (skY so rs tx ty)) ++ (wBd G b bs)))))) (va_runV (As := []) (rest := []) ⟨hx, hb, hml, hown, hts⟩ (c_thrown l G a ((mdXy 1 m (sx (i + 1))).2) H.size) (cwV 0 hts gL_law_X5_thrown rfl rfl rfl (by decide +kernel) ⟨Nat.le_of_ble_eq_true rfl, Nat.le_of_ble_eq_true rfl⟩) (r_preV (ci := 5) (q0 := 0) hK hwc rfl rfl rfl) rfl rfl hl.1 rfl (lv_room (Nat.le_of_ble_eq_true rfl)) dL_law_628 ⟨show kc + 1 + 0 + 0 ≤ 601024 by omega, show ks + 6 + 0 + 0 ≤ 7293034 by omega⟩) hwc hA rfl rfl (fun H locs hw => ?_)
  have hw : wW G (fun q => s9.heap.size ≤ q) s9.heap (wMd G a ((mdXy 1 m (sx (i + 1))).2) ++ (wLg G g (xs (exIn so.1 (sx (i + 1))) out (vp_updL out 0 (axPl (skY so rs tx ty) (iN (sx (i + 1)))).toInt64)) ++ (wRw G r (xs (exIn so.1 (sx (i + 1))) rs (rs.1, rs.2.1, rs.2.2.1, rs.2.2.2.1, rs.2.2.2.2.1, (skS so rs tx ty), rs.2.2.2.2.2.2)) ++ (wOb G (o, x.1, y.1, r.1, b.1) (xs (exIn so.1 (sx (i + 1))) so (so.1, skF so)) ++ (wAx G x (xs (exIn so.1 (sx (i + 1))) tx (skX so rs tx ty)) ++ (wAx G y (xs (exIn so.1 (sx (i + 1))) ty (skY so rs tx ty)) ++ (wBd G b bs))))))) H locs := hw
  refine lv_iload hx hb dL_law_631 (lv_at hl 1 rfl) ?_
  refine lv_icmp_eq (tgt := 638) hx hb dL_law_633 (by decide) (fun c_633 => ?_) (fun c_633 => ?_)
  · refine lv_iload hx hb dL_law_638 (lv_at hl 1 rfl) ?_
    refine lv_if_ne (tgt := 655) hx hb dL_law_640 (by decide) (fun c_640 => ?_) (fun c_640 => ?_)
    · refine lv_goto (tgt := 1062) hx hb dL_law_655 (by decide) ?_
      exact W.widen (k := kc + 5) (n := ks + 30) (by omega) (by omega) (kk _ _ _ _ _ _ _ _ _ _ hR1 hw (lv_sub hl [2, 3, 4, 5, 6] rfl))
    · have hq := hout c_640
      refine lv_aload_n hx hb dL_law_643 rfl (lv_at hl 5 rfl) ?_
      refine lv_iconst (v := 0) hx hb dL_law_644 (by decide) ?_
      refine r_lald (v := (xs (exIn so.1 (sx (i + 1))) out (vp_updL out 0 (axPl (skY so rs tx ty) (iN (sx (i + 1)))).toInt64)) 0) hx hb hK hw 22 rfl 0 rfl (by omega) (by decide) rfl dL_law_645 ?_
      refine lv_iload hx hb dL_law_646 (lv_at hl 0 rfl) ?_
      refine lv_i2l (v := ((mdXy 1 m (sx (i + 1))).1).toInt64) hx hb dL_law_648 rfl ?_
      refine W.lcmp hx hb dL_law_649 ?_
      refine lv_if_eq (tgt := 655) hx hb dL_law_650 (by decide) (fun c_650 => ?_) (fun c_650 => ?_)
      · refine lv_goto (tgt := 1062) hx hb dL_law_655 (by decide) ?_
        exact W.widen (k := kc + 5) (n := ks + 30) (by omega) (by omega) (kk _ _ _ _ _ _ _ _ _ _ hR1 hw (lv_sub hl [2, 3, 4, 5, 6] rfl))
      · exact absurd ((lg_cmp_eq _ _).mpr hq) c_650
  · exact absurd hth c_633

set_option maxHeartbeats 4000000 in
set_option maxRecDepth 100000 in
/-- the law: tell -/
theorem lc_tell {p9 : Program} {l : Launch} {e9 : Env} {s9 : State} {m9 : MethodId} {be9 : List Frame} {mt9 : Method} {c9 : Code} {sc L : Nat} {sx : Nat → Int32} {G : gT} {X : Nat → Nat} (C9 : lC p9 l s9 m9 mt9 c9 sc L sx G X) (a : aMd) (g o : Nat) (r : aRw) (x y : aAx) (b : aBd) {m : tMd} {out : Nat → Int64} {rs : tRw} {so : tOb} {tx ty : tAx} {bs : tBd} (hR : LR m rs so tx ty bs) {i : Nat} (hi : i + 5 ≤ L) {kc ks : Nat} (hkc : kc + 5 ≤ 601024) (hks : ks + 30 ≤ 7293034) (kk : lGo p9 l e9 s9 m9 be9 mt9 c9 sc G a g o r x y b i (kc + 5) (ks + 30)) {H : Heap} {locs : List Loc} {ls : Array Slot} (hw : wW G (fun q => s9.heap.size ≤ q) s9.heap (lWd G a g o r x y b m out rs so tx ty bs) H locs) (hl : lv_has ls 7 [(0, .ref sc), (1, .ref o), (2, .ref (a 0)), (3, .ref g), (4, .int (nI i))]) : W p9 l e9 room_1 s9 m9 #[.ref sc] be9 mt9 c9 H locs kc ks (lw_Z be9 #[.ref sc] s9) (F0 m9 658 ls []) := by
  obtain ⟨⟨hx, hb, -, hml, hown, hts0, hX, hbl, hlocks, -⟩, hL, hst, hK, hF, hN⟩ := C9
  have hts : ∀ w ∈ wsL_law, w.before #[Value.ref sc] s9 = true := fun w hw => hts0 w (wsL_law_in w hw)
  have hA : ∀ q : Nat, s9.heap.size ≤ q → (fun q : Nat => s9.heap.size ≤ q) q := fun _ h => h
  have hbA : ¬ (fun q : Nat => s9.heap.size ≤ q) sc := Nat.not_le.mpr hbl
  have hb8 : bs.2.1 ≤ 8 := by rw [hR.2.2.1.1.2.1]; exact hR.2.2.1.1.2.2.1
  have hw : wW G (fun q => s9.heap.size ≤ q) s9.heap (wMd G a m ++ (wLg G g out ++ (wRw G r rs ++ (wOb G (o, x.1, y.1, r.1, b.1) so ++ (wAx G x tx ++ (wAx G y ty ++ (wBd G b bs))))))) H locs := hw
  obtain ⟨hth, hout, hR1⟩ := lm_tell hR (sx (i + 1)) (sx (i + 2)) (sx (i + 3)) out
  refine lv_aload_n hx hb dL_law_658 rfl (lv_at hl 1 rfl) ?_
  refine lv_aload_n hx hb dL_law_659 rfl (lv_at hl 0 rfl) ?_
  refine lv_iload hx hb dL_law_660 (lv_at hl 4 rfl) ?_
  refine lv_iconst (v := 1) hx hb dL_law_662 (by decide) ?_
  refine lv_iadd hx hb dL_law_663 ?_
  refine r_top (y := nI (i + 1)) (nI_add i 1) ?_
  refine va_sld hx hb hX hbl hbA hw.2.2 (vp_in_nI (show i + 1 < L by omega) (by omega)) dL_law_664 ?_
  refine r_top (y := sx (i + 1)) (congrArg sx (nI_clamp (show i + 1 < 2 ^ 31 by omega))) ?_
  refine lv_aload_n hx hb dL_law_665 rfl (lv_at hl 0 rfl) ?_
  refine lv_iload hx hb dL_law_666 (lv_at hl 4 rfl) ?_
  refine lv_iconst (v := 2) hx hb dL_law_668 (by decide) ?_
  refine lv_iadd hx hb dL_law_669 ?_
  refine r_top (y := nI (i + 2)) (nI_add i 2) ?_
  refine va_sld hx hb hX hbl hbA hw.2.2 (vp_in_nI (show i + 2 < L by omega) (by omega)) dL_law_670 ?_
  refine r_top (y := sx (i + 2)) (congrArg sx (nI_clamp (show i + 2 < 2 ^ 31 by omega))) ?_
  refine lv_aload_n hx hb dL_law_671 rfl (lv_at hl 0 rfl) ?_
  refine lv_iload hx hb dL_law_672 (lv_at hl 4 rfl) ?_
  refine lv_iconst (v := 3) hx hb dL_law_674 (by decide) ?_
  refine lv_iadd hx hb dL_law_675 ?_
  refine r_top (y := nI (i + 3)) (nI_add i 3) ?_
  refine va_sld hx hb hX hbl hbA hw.2.2 (vp_in_nI (show i + 3 < L by omega) (by omega)) dL_law_676 ?_
  refine r_top (y := sx (i + 3)) (congrArg sx (nI_clamp (show i + 3 < 2 ^ 31 by omega))) ?_
  refine lv_aload_n hx hb dL_law_677 rfl (lv_at hl 3 rfl) ?_
  have hwc : wW G (fun q => s9.heap.size ≤ q) s9.heap ((wMd G a m) ++ ((wLg G g out ++ (wRw G r rs ++ (wOb G (o, x.1, y.1, r.1, b.1) so ++ (wAx G x tx ++ (wAx G y ty ++ (wBd G b bs)))))) ++ ([] : va_W))) H locs := hw
  refine r_calli (res := (hcd 1 3 2 (exTell rs.1 rs.2.1 (sx (i + 1)) (sx (i + 2)) (sx (i + 3))))) (u := wMd G a m) (w := wLg G g out ++ (wRw G r rs ++ (wOb G (o, x.1, y.1, r.1, b.1) so ++ (wAx G x tx ++ (wAx G y ty ++ (wBd G b bs)))))) (v := ([] : va_W)) (vx_runSW (As := [.ref o, .int (sx (i + 1)), .int (sx (i + 2)), .int (sx (i + 3)), .ref g]) (rest := []) ⟨hx, hb, hml, hown, hts⟩ (c_L_tell l G hst X g out r rs so x tx y ty b bs o (sx (i + 1)) (sx (i + 2)) (sx (i + 3)) (LRs.skOk hR) hb8 hR.2.2.1.2.1 hR.2.2.1.2.2.1 H.size) (vx_cwSW 5 hts gL_law_L_tell rfl rfl rfl (by decide +kernel) ⟨Nat.le_of_ble_eq_true rfl, Nat.le_of_ble_eq_true rfl⟩) (h_preS hK hF hN hA hwc) rfl rfl hl.1 rfl (lv_room (Nat.le_of_ble_eq_true rfl)) dL_law_678 ⟨show kc + 4 ≤ 601024 by omega, show ks + 24 ≤ 7293034 by omega⟩) hwc hA rfl rfl (fun H locs hw => ?_)
  have hw : wW G (fun q => s9.heap.size ≤ q) s9.heap (wMd G a m ++ (wLg G g (xs (exTell rs.1 rs.2.1 (sx (i + 1)) (sx (i + 2)) (sx (i + 3))) out (vp_updL out 0 (rwCountK (rs.1, rs.2.1, rs.2.2.1, rs.2.2.2.1, rs.2.2.2.2.1, rs.2.2.2.2.2.1, updF rs.2.2.2.2.2.2 (iN (sx (i + 1))) (upd (rs.2.2.2.2.2.2 (iN (sx (i + 1)))) (iN (sx (i + 2))) (sx (i + 3)))) (iN (sx (i + 1))) rs.1).toInt64)) ++ (wRw G r (xs (exTell rs.1 rs.2.1 (sx (i + 1)) (sx (i + 2)) (sx (i + 3))) rs (rs.1, rs.2.1, rs.2.2.1, rs.2.2.2.1, rs.2.2.2.2.1, rs.2.2.2.2.2.1, (updF rs.2.2.2.2.2.2 (iN (sx (i + 1))) (upd (rs.2.2.2.2.2.2 (iN (sx (i + 1)))) (iN (sx (i + 2))) (sx (i + 3)))))) ++ (wOb G (o, x.1, y.1, r.1, b.1) so ++ (wAx G x tx ++ (wAx G y ty ++ (wBd G b bs))))))) H locs := wW.eq (by generalize exTell rs.1 rs.2.1 (sx (i + 1)) (sx (i + 2)) (sx (i + 3)) = E9; cases E9 <;> rfl) hw
  refine lv_istore (lv' := [(5, .int (hcd 1 3 2 (exTell rs.1 rs.2.1 (sx (i + 1)) (sx (i + 2)) (sx (i + 3))))), (0, .ref sc), (1, .ref o), (2, .ref (a 0)), (3, .ref g), (4, .int (nI i))]) hx hb dL_law_681 hl (by decide) rfl (fun ls hl => ?_)
  refine lv_aload_n hx hb dL_law_683 rfl (lv_at hl 3 rfl) ?_
  refine lv_aload_n hx hb dL_law_684 rfl (lv_at hl 1 rfl) ?_
  refine lv_iload hx hb dL_law_685 (lv_at hl 5 rfl) ?_
  refine lv_iconst (v := 1) hx hb dL_law_687 (by decide) ?_
  refine lv_iadd hx hb dL_law_688 ?_
  refine r_top (y := nI (i + 1)) (nI_add i 1) ?_
  refine va_sld hx hb hX hbl hbA hw.2.2 (vp_in_nI (show i + 1 < L by omega) (by omega)) dL_law_689 ?_
  refine r_top (y := sx (i + 1)) (congrArg sx (nI_clamp (show i + 1 < 2 ^ 31 by omega))) ?_
  refine lv_aload_n hx hb dL_law_690 rfl (lv_at hl 1 rfl) ?_
  refine lv_iload hx hb dL_law_691 (lv_at hl 5 rfl) ?_
  refine lv_iconst (v := 2) hx hb dL_law_693 (by decide) ?_
  refine lv_iadd hx hb dL_law_694 ?_
  refine r_top (y := nI (i + 2)) (nI_add i 2) ?_
  refine va_sld hx hb hX hbl hbA hw.2.2 (vp_in_nI (show i + 2 < L by omega) (by omega)) dL_law_695 ?_
  refine r_top (y := sx (i + 2)) (congrArg sx (nI_clamp (show i + 2 < 2 ^ 31 by omega))) ?_
  refine lv_aload_n hx hb dL_law_696 rfl (lv_at hl 1 rfl) ?_
  refine lv_iload hx hb dL_law_697 (lv_at hl 5 rfl) ?_
  refine lv_iconst (v := 3) hx hb dL_law_699 (by decide) ?_
  refine lv_iadd hx hb dL_law_700 ?_
  refine r_top (y := nI (i + 3)) (nI_add i 3) ?_
  refine va_sld hx hb hX hbl hbA hw.2.2 (vp_in_nI (show i + 3 < L by omega) (by omega)) dL_law_701 ?_
  refine r_top (y := sx (i + 3)) (congrArg sx (nI_clamp (show i + 3 < 2 ^ 31 by omega))) ?_
  have hwc : wW G (fun q => s9.heap.size ≤ q) s9.heap (([] : va_W) ++ ((wMd G a m) ++ (wLg G g (xs (exTell rs.1 rs.2.1 (sx (i + 1)) (sx (i + 2)) (sx (i + 3))) out (vp_updL out 0 (rwCountK (rs.1, rs.2.1, rs.2.2.1, rs.2.2.2.1, rs.2.2.2.2.1, rs.2.2.2.2.2.1, updF rs.2.2.2.2.2.2 (iN (sx (i + 1))) (upd (rs.2.2.2.2.2.2 (iN (sx (i + 1)))) (iN (sx (i + 2))) (sx (i + 3)))) (iN (sx (i + 1))) rs.1).toInt64)) ++ (wRw G r (xs (exTell rs.1 rs.2.1 (sx (i + 1)) (sx (i + 2)) (sx (i + 3))) rs (rs.1, rs.2.1, rs.2.2.1, rs.2.2.2.1, rs.2.2.2.2.1, rs.2.2.2.2.2.1, (updF rs.2.2.2.2.2.2 (iN (sx (i + 1))) (upd (rs.2.2.2.2.2.2 (iN (sx (i + 1)))) (iN (sx (i + 2))) (sx (i + 3)))))) ++ (wOb G (o, x.1, y.1, r.1, b.1) so ++ (wAx G x tx ++ (wAx G y ty ++ (wBd G b bs)))))))) H locs := hw
  refine r_calli (res := ((mdTell m (sx (i + 1)) (sx (i + 2)) (sx (i + 3))).1)) (u := ([] : va_W)) (w := wMd G a m) (v := wLg G g (xs (exTell rs.1 rs.2.1 (sx (i + 1)) (sx (i + 2)) (sx (i + 3))) out (vp_updL out 0 (rwCountK (rs.1, rs.2.1, rs.2.2.1, rs.2.2.2.1, rs.2.2.2.2.1, rs.2.2.2.2.2.1, updF rs.2.2.2.2.2.2 (iN (sx (i + 1))) (upd (rs.2.2.2.2.2.2 (iN (sx (i + 1)))) (iN (sx (i + 2))) (sx (i + 3)))) (iN (sx (i + 1))) rs.1).toInt64)) ++ (wRw G r (xs (exTell rs.1 rs.2.1 (sx (i + 1)) (sx (i + 2)) (sx (i + 3))) rs (rs.1, rs.2.1, rs.2.2.1, rs.2.2.2.1, rs.2.2.2.2.1, rs.2.2.2.2.2.1, (updF rs.2.2.2.2.2.2 (iN (sx (i + 1))) (upd (rs.2.2.2.2.2.2 (iN (sx (i + 1)))) (iN (sx (i + 2))) (sx (i + 3)))))) ++ (wOb G (o, x.1, y.1, r.1, b.1) so ++ (wAx G x tx ++ (wAx G y ty ++ (wBd G b bs)))))) (va_runV (As := [.int (sx (i + 1)), .int (sx (i + 2)), .int (sx (i + 3))]) (rest := []) ⟨hx, hb, hml, hown, hts⟩ (c_m_tell l G a m (sx (i + 1)) (sx (i + 2)) (sx (i + 3)) hR.nw.2 H.size) (cwV 3 hts gL_law_X5_tell rfl rfl rfl (by decide +kernel) ⟨Nat.le_of_ble_eq_true rfl, Nat.le_of_ble_eq_true rfl⟩) (r_preV (ci := 5) (q0 := 0) hK hwc rfl rfl rfl) rfl rfl hl.1 rfl (lv_room (Nat.le_of_ble_eq_true rfl)) dL_law_702 ⟨show kc + 4 + 0 ≤ 601024 by omega, show ks + 24 + 0 ≤ 7293034 by omega⟩) hwc hA rfl rfl (fun H locs hw => ?_)
  have hw : wW G (fun q => s9.heap.size ≤ q) s9.heap (wMd G a ((mdTell m (sx (i + 1)) (sx (i + 2)) (sx (i + 3))).2) ++ (wLg G g (xs (exTell rs.1 rs.2.1 (sx (i + 1)) (sx (i + 2)) (sx (i + 3))) out (vp_updL out 0 (rwCountK (rs.1, rs.2.1, rs.2.2.1, rs.2.2.2.1, rs.2.2.2.2.1, rs.2.2.2.2.2.1, updF rs.2.2.2.2.2.2 (iN (sx (i + 1))) (upd (rs.2.2.2.2.2.2 (iN (sx (i + 1)))) (iN (sx (i + 2))) (sx (i + 3)))) (iN (sx (i + 1))) rs.1).toInt64)) ++ (wRw G r (xs (exTell rs.1 rs.2.1 (sx (i + 1)) (sx (i + 2)) (sx (i + 3))) rs (rs.1, rs.2.1, rs.2.2.1, rs.2.2.2.1, rs.2.2.2.2.1, rs.2.2.2.2.2.1, (updF rs.2.2.2.2.2.2 (iN (sx (i + 1))) (upd (rs.2.2.2.2.2.2 (iN (sx (i + 1)))) (iN (sx (i + 2))) (sx (i + 3)))))) ++ (wOb G (o, x.1, y.1, r.1, b.1) so ++ (wAx G x tx ++ (wAx G y ty ++ (wBd G b bs))))))) H locs := hw
  refine lv_istore (lv' := [(6, .int ((mdTell m (sx (i + 1)) (sx (i + 2)) (sx (i + 3))).1)), (5, .int (hcd 1 3 2 (exTell rs.1 rs.2.1 (sx (i + 1)) (sx (i + 2)) (sx (i + 3))))), (0, .ref sc), (1, .ref o), (2, .ref (a 0)), (3, .ref g), (4, .int (nI i))]) hx hb dL_law_705 hl (by decide) rfl (fun ls hl => ?_)
  refine lv_aload_n hx hb dL_law_707 rfl (lv_at hl 4 rfl) ?_
  have hwc : wW G (fun q => s9.heap.size ≤ q) s9.heap (([] : va_W) ++ ((wMd G a ((mdTell m (sx (i + 1)) (sx (i + 2)) (sx (i + 3))).2)) ++ (wLg G g (xs (exTell rs.1 rs.2.1 (sx (i + 1)) (sx (i + 2)) (sx (i + 3))) out (vp_updL out 0 (rwCountK (rs.1, rs.2.1, rs.2.2.1, rs.2.2.2.1, rs.2.2.2.2.1, rs.2.2.2.2.2.1, updF rs.2.2.2.2.2.2 (iN (sx (i + 1))) (upd (rs.2.2.2.2.2.2 (iN (sx (i + 1)))) (iN (sx (i + 2))) (sx (i + 3)))) (iN (sx (i + 1))) rs.1).toInt64)) ++ (wRw G r (xs (exTell rs.1 rs.2.1 (sx (i + 1)) (sx (i + 2)) (sx (i + 3))) rs (rs.1, rs.2.1, rs.2.2.1, rs.2.2.2.1, rs.2.2.2.2.1, rs.2.2.2.2.2.1, (updF rs.2.2.2.2.2.2 (iN (sx (i + 1))) (upd (rs.2.2.2.2.2.2 (iN (sx (i + 1)))) (iN (sx (i + 2))) (sx (i + 3)))))) ++ (wOb G (o, x.1, y.1, r.1, b.1) so ++ (wAx G x tx ++ (wAx G y ty ++ (wBd G b bs)))))))) H locs := hw
  refine r_calli (res := (((mdTell m (sx (i + 1)) (sx (i + 2)) (sx (i + 3))).2).1)) (u := ([] : va_W)) (w := wMd G a ((mdTell m (sx (i + 1)) (sx (i + 2)) (sx (i + 3))).2)) (v := wLg G g (xs (exTell rs.1 rs.2.1 (sx (i + 1)) (sx (i + 2)) (sx (i + 3))) out (vp_updL out 0 (rwCountK (rs.1, rs.2.1, rs.2.2.1, rs.2.2.2.1, rs.2.2.2.2.1, rs.2.2.2.2.2.1, updF rs.2.2.2.2.2.2 (iN (sx (i + 1))) (upd (rs.2.2.2.2.2.2 (iN (sx (i + 1)))) (iN (sx (i + 2))) (sx (i + 3)))) (iN (sx (i + 1))) rs.1).toInt64)) ++ (wRw G r (xs (exTell rs.1 rs.2.1 (sx (i + 1)) (sx (i + 2)) (sx (i + 3))) rs (rs.1, rs.2.1, rs.2.2.1, rs.2.2.2.1, rs.2.2.2.2.1, rs.2.2.2.2.2.1, (updF rs.2.2.2.2.2.2 (iN (sx (i + 1))) (upd (rs.2.2.2.2.2.2 (iN (sx (i + 1)))) (iN (sx (i + 2))) (sx (i + 3)))))) ++ (wOb G (o, x.1, y.1, r.1, b.1) so ++ (wAx G x tx ++ (wAx G y ty ++ (wBd G b bs)))))) (va_runV (As := []) (rest := []) ⟨hx, hb, hml, hown, hts⟩ (c_thrown l G a ((mdTell m (sx (i + 1)) (sx (i + 2)) (sx (i + 3))).2) H.size) (cwV 0 hts gL_law_X5_thrown rfl rfl rfl (by decide +kernel) ⟨Nat.le_of_ble_eq_true rfl, Nat.le_of_ble_eq_true rfl⟩) (r_preV (ci := 5) (q0 := 0) hK hwc rfl rfl rfl) rfl rfl hl.1 rfl (lv_room (Nat.le_of_ble_eq_true rfl)) dL_law_708 ⟨show kc + 4 + 0 + 0 ≤ 601024 by omega, show ks + 24 + 0 + 0 ≤ 7293034 by omega⟩) hwc hA rfl rfl (fun H locs hw => ?_)
  have hw : wW G (fun q => s9.heap.size ≤ q) s9.heap (wMd G a ((mdTell m (sx (i + 1)) (sx (i + 2)) (sx (i + 3))).2) ++ (wLg G g (xs (exTell rs.1 rs.2.1 (sx (i + 1)) (sx (i + 2)) (sx (i + 3))) out (vp_updL out 0 (rwCountK (rs.1, rs.2.1, rs.2.2.1, rs.2.2.2.1, rs.2.2.2.2.1, rs.2.2.2.2.2.1, updF rs.2.2.2.2.2.2 (iN (sx (i + 1))) (upd (rs.2.2.2.2.2.2 (iN (sx (i + 1)))) (iN (sx (i + 2))) (sx (i + 3)))) (iN (sx (i + 1))) rs.1).toInt64)) ++ (wRw G r (xs (exTell rs.1 rs.2.1 (sx (i + 1)) (sx (i + 2)) (sx (i + 3))) rs (rs.1, rs.2.1, rs.2.2.1, rs.2.2.2.1, rs.2.2.2.2.1, rs.2.2.2.2.2.1, (updF rs.2.2.2.2.2.2 (iN (sx (i + 1))) (upd (rs.2.2.2.2.2.2 (iN (sx (i + 1)))) (iN (sx (i + 2))) (sx (i + 3)))))) ++ (wOb G (o, x.1, y.1, r.1, b.1) so ++ (wAx G x tx ++ (wAx G y ty ++ (wBd G b bs))))))) H locs := hw
  refine lv_iload hx hb dL_law_711 (lv_at hl 1 rfl) ?_
  refine lv_icmp_eq (tgt := 718) hx hb dL_law_713 (by decide) (fun c_713 => ?_) (fun c_713 => ?_)
  · refine lv_iload hx hb dL_law_718 (lv_at hl 1 rfl) ?_
    refine lv_if_ne (tgt := 735) hx hb dL_law_720 (by decide) (fun c_720 => ?_) (fun c_720 => ?_)
    · refine lv_goto (tgt := 1062) hx hb dL_law_735 (by decide) ?_
      exact W.widen (k := kc + 5) (n := ks + 30) (by omega) (by omega) (kk _ _ _ _ _ _ _ _ _ _ hR1 hw (lv_sub hl [2, 3, 4, 5, 6] rfl))
    · have hq := hout c_720
      refine lv_aload_n hx hb dL_law_723 rfl (lv_at hl 5 rfl) ?_
      refine lv_iconst (v := 0) hx hb dL_law_724 (by decide) ?_
      refine r_lald (v := (xs (exTell rs.1 rs.2.1 (sx (i + 1)) (sx (i + 2)) (sx (i + 3))) out (vp_updL out 0 (rwCountK (rs.1, rs.2.1, rs.2.2.1, rs.2.2.2.1, rs.2.2.2.2.1, rs.2.2.2.2.2.1, updF rs.2.2.2.2.2.2 (iN (sx (i + 1))) (upd (rs.2.2.2.2.2.2 (iN (sx (i + 1)))) (iN (sx (i + 2))) (sx (i + 3)))) (iN (sx (i + 1))) rs.1).toInt64)) 0) hx hb hK hw 22 rfl 0 rfl (by omega) (by decide) rfl dL_law_725 ?_
      refine lv_iload hx hb dL_law_726 (lv_at hl 0 rfl) ?_
      refine lv_i2l (v := ((mdTell m (sx (i + 1)) (sx (i + 2)) (sx (i + 3))).1).toInt64) hx hb dL_law_728 rfl ?_
      refine W.lcmp hx hb dL_law_729 ?_
      refine lv_if_eq (tgt := 735) hx hb dL_law_730 (by decide) (fun c_730 => ?_) (fun c_730 => ?_)
      · refine lv_goto (tgt := 1062) hx hb dL_law_735 (by decide) ?_
        exact W.widen (k := kc + 5) (n := ks + 30) (by omega) (by omega) (kk _ _ _ _ _ _ _ _ _ _ hR1 hw (lv_sub hl [2, 3, 4, 5, 6] rfl))
      · exact absurd ((lg_cmp_eq _ _).mpr hq) c_730
  · exact absurd hth c_713

set_option maxHeartbeats 4000000 in
set_option maxRecDepth 100000 in
/-- the law: choose -/
theorem lc_choose {p9 : Program} {l : Launch} {e9 : Env} {s9 : State} {m9 : MethodId} {be9 : List Frame} {mt9 : Method} {c9 : Code} {sc L : Nat} {sx : Nat → Int32} {G : gT} {X : Nat → Nat} (C9 : lC p9 l s9 m9 mt9 c9 sc L sx G X) (a : aMd) (g o : Nat) (r : aRw) (x y : aAx) (b : aBd) {m : tMd} {out : Nat → Int64} {rs : tRw} {so : tOb} {tx ty : tAx} {bs : tBd} (hR : LR m rs so tx ty bs) {i : Nat} (hi : i + 5 ≤ L) {kc ks : Nat} (hkc : kc + 5 ≤ 601024) (hks : ks + 30 ≤ 7293034) (kk : lGo p9 l e9 s9 m9 be9 mt9 c9 sc G a g o r x y b i (kc + 5) (ks + 30)) {H : Heap} {locs : List Loc} {ls : Array Slot} (hw : wW G (fun q => s9.heap.size ≤ q) s9.heap (lWd G a g o r x y b m out rs so tx ty bs) H locs) (hl : lv_has ls 7 [(0, .ref sc), (1, .ref o), (2, .ref (a 0)), (3, .ref g), (4, .int (nI i))]) : W p9 l e9 room_1 s9 m9 #[.ref sc] be9 mt9 c9 H locs kc ks (lw_Z be9 #[.ref sc] s9) (F0 m9 738 ls []) := by
  obtain ⟨⟨hx, hb, -, hml, hown, hts0, hX, hbl, hlocks, -⟩, hL, hst, hK, hF, hN⟩ := C9
  have hts : ∀ w ∈ wsL_law, w.before #[Value.ref sc] s9 = true := fun w hw => hts0 w (wsL_law_in w hw)
  have hA : ∀ q : Nat, s9.heap.size ≤ q → (fun q : Nat => s9.heap.size ≤ q) q := fun _ h => h
  have hbA : ¬ (fun q : Nat => s9.heap.size ≤ q) sc := Nat.not_le.mpr hbl
  have hb8 : bs.2.1 ≤ 8 := by rw [hR.2.2.1.1.2.1]; exact hR.2.2.1.1.2.2.1
  have hw : wW G (fun q => s9.heap.size ≤ q) s9.heap (wMd G a m ++ (wLg G g out ++ (wRw G r rs ++ (wOb G (o, x.1, y.1, r.1, b.1) so ++ (wAx G x tx ++ (wAx G y ty ++ (wBd G b bs))))))) H locs := hw
  obtain ⟨hth, hout, hR1⟩ := lm_choose hR (sx (i + 1)) out
  refine lv_aload_n hx hb dL_law_738 rfl (lv_at hl 1 rfl) ?_
  refine lv_aload_n hx hb dL_law_739 rfl (lv_at hl 0 rfl) ?_
  refine lv_iload hx hb dL_law_740 (lv_at hl 4 rfl) ?_
  refine lv_iconst (v := 1) hx hb dL_law_742 (by decide) ?_
  refine lv_iadd hx hb dL_law_743 ?_
  refine r_top (y := nI (i + 1)) (nI_add i 1) ?_
  refine va_sld hx hb hX hbl hbA hw.2.2 (vp_in_nI (show i + 1 < L by omega) (by omega)) dL_law_744 ?_
  refine r_top (y := sx (i + 1)) (congrArg sx (nI_clamp (show i + 1 < 2 ^ 31 by omega))) ?_
  refine lv_aload_n hx hb dL_law_745 rfl (lv_at hl 3 rfl) ?_
  have hwc : wW G (fun q => s9.heap.size ≤ q) s9.heap ((wMd G a m) ++ ((wLg G g out ++ (wRw G r rs ++ (wOb G (o, x.1, y.1, r.1, b.1) so ++ (wAx G x tx ++ (wAx G y ty ++ (wBd G b bs)))))) ++ ([] : va_W))) H locs := hw
  refine r_calli (res := (hcd 1 9 9 (exVar (sx (i + 1))))) (u := wMd G a m) (w := wLg G g out ++ (wRw G r rs ++ (wOb G (o, x.1, y.1, r.1, b.1) so ++ (wAx G x tx ++ (wAx G y ty ++ (wBd G b bs)))))) (v := ([] : va_W)) (vx_runSW (As := [.ref o, .int (sx (i + 1)), .ref g]) (rest := []) ⟨hx, hb, hml, hown, hts⟩ (c_L_choose l G hst X g out r rs so x tx y ty b bs o (sx (i + 1)) (LRs.skOk hR) hb8 hR.2.2.1.2.1 hR.2.2.1.2.2.1 H.size) (vx_cwSW 3 hts gL_law_L_choose rfl rfl rfl (by decide +kernel) ⟨Nat.le_of_ble_eq_true rfl, Nat.le_of_ble_eq_true rfl⟩) (h_preS hK hF hN hA hwc) rfl rfl hl.1 rfl (lv_room (Nat.le_of_ble_eq_true rfl)) dL_law_746 ⟨show kc + 1 ≤ 601024 by omega, show ks + 6 ≤ 7293034 by omega⟩) hwc hA rfl rfl (fun H locs hw => ?_)
  have hw : wW G (fun q => s9.heap.size ≤ q) s9.heap (wMd G a m ++ (wLg G g (xs (exVar (sx (i + 1))) out (vp_updL out 0 ((rwTakeK rs (iN (sx (i + 1))) rs.1).1).toInt64)) ++ (wRw G r (xs (exVar (sx (i + 1))) rs (rs.1, rs.2.1, rs.2.2.1, rs.2.2.2.1, (rwTakeK rs (iN (sx (i + 1))) rs.1).2, rs.2.2.2.2.2.1, rs.2.2.2.2.2.2)) ++ (wOb G (o, x.1, y.1, r.1, b.1) (xs (exVar (sx (i + 1))) so (so.1, 0)) ++ (wAx G x tx ++ (wAx G y ty ++ (wBd G b bs))))))) H locs := wW.eq (by generalize exVar (sx (i + 1)) = E9; cases E9 <;> rfl) hw
  refine lv_istore (lv' := [(5, .int (hcd 1 9 9 (exVar (sx (i + 1))))), (0, .ref sc), (1, .ref o), (2, .ref (a 0)), (3, .ref g), (4, .int (nI i))]) hx hb dL_law_749 hl (by decide) rfl (fun ls hl => ?_)
  refine lv_aload_n hx hb dL_law_751 rfl (lv_at hl 3 rfl) ?_
  refine lv_aload_n hx hb dL_law_752 rfl (lv_at hl 1 rfl) ?_
  refine lv_iload hx hb dL_law_753 (lv_at hl 5 rfl) ?_
  refine lv_iconst (v := 1) hx hb dL_law_755 (by decide) ?_
  refine lv_iadd hx hb dL_law_756 ?_
  refine r_top (y := nI (i + 1)) (nI_add i 1) ?_
  refine va_sld hx hb hX hbl hbA hw.2.2 (vp_in_nI (show i + 1 < L by omega) (by omega)) dL_law_757 ?_
  refine r_top (y := sx (i + 1)) (congrArg sx (nI_clamp (show i + 1 < 2 ^ 31 by omega))) ?_
  have hwc : wW G (fun q => s9.heap.size ≤ q) s9.heap (([] : va_W) ++ ((wMd G a m) ++ (wLg G g (xs (exVar (sx (i + 1))) out (vp_updL out 0 ((rwTakeK rs (iN (sx (i + 1))) rs.1).1).toInt64)) ++ (wRw G r (xs (exVar (sx (i + 1))) rs (rs.1, rs.2.1, rs.2.2.1, rs.2.2.2.1, (rwTakeK rs (iN (sx (i + 1))) rs.1).2, rs.2.2.2.2.2.1, rs.2.2.2.2.2.2)) ++ (wOb G (o, x.1, y.1, r.1, b.1) (xs (exVar (sx (i + 1))) so (so.1, 0)) ++ (wAx G x tx ++ (wAx G y ty ++ (wBd G b bs)))))))) H locs := hw
  refine r_calli (res := ((mdChoose m (sx (i + 1))).1)) (u := ([] : va_W)) (w := wMd G a m) (v := wLg G g (xs (exVar (sx (i + 1))) out (vp_updL out 0 ((rwTakeK rs (iN (sx (i + 1))) rs.1).1).toInt64)) ++ (wRw G r (xs (exVar (sx (i + 1))) rs (rs.1, rs.2.1, rs.2.2.1, rs.2.2.2.1, (rwTakeK rs (iN (sx (i + 1))) rs.1).2, rs.2.2.2.2.2.1, rs.2.2.2.2.2.2)) ++ (wOb G (o, x.1, y.1, r.1, b.1) (xs (exVar (sx (i + 1))) so (so.1, 0)) ++ (wAx G x tx ++ (wAx G y ty ++ (wBd G b bs)))))) (va_runV (As := [.int (sx (i + 1))]) (rest := []) ⟨hx, hb, hml, hown, hts⟩ (c_m_choose l G a m (sx (i + 1)) hR.nw.2 H.size) (cwV 1 hts gL_law_X5_choose rfl rfl rfl (by decide +kernel) ⟨Nat.le_of_ble_eq_true rfl, Nat.le_of_ble_eq_true rfl⟩) (r_preV (ci := 5) (q0 := 0) hK hwc rfl rfl rfl) rfl rfl hl.1 rfl (lv_room (Nat.le_of_ble_eq_true rfl)) dL_law_758 ⟨show kc + 1 + 0 ≤ 601024 by omega, show ks + 6 + 0 ≤ 7293034 by omega⟩) hwc hA rfl rfl (fun H locs hw => ?_)
  have hw : wW G (fun q => s9.heap.size ≤ q) s9.heap (wMd G a ((mdChoose m (sx (i + 1))).2) ++ (wLg G g (xs (exVar (sx (i + 1))) out (vp_updL out 0 ((rwTakeK rs (iN (sx (i + 1))) rs.1).1).toInt64)) ++ (wRw G r (xs (exVar (sx (i + 1))) rs (rs.1, rs.2.1, rs.2.2.1, rs.2.2.2.1, (rwTakeK rs (iN (sx (i + 1))) rs.1).2, rs.2.2.2.2.2.1, rs.2.2.2.2.2.2)) ++ (wOb G (o, x.1, y.1, r.1, b.1) (xs (exVar (sx (i + 1))) so (so.1, 0)) ++ (wAx G x tx ++ (wAx G y ty ++ (wBd G b bs))))))) H locs := hw
  refine lv_istore (lv' := [(6, .int ((mdChoose m (sx (i + 1))).1)), (5, .int (hcd 1 9 9 (exVar (sx (i + 1))))), (0, .ref sc), (1, .ref o), (2, .ref (a 0)), (3, .ref g), (4, .int (nI i))]) hx hb dL_law_761 hl (by decide) rfl (fun ls hl => ?_)
  refine lv_aload_n hx hb dL_law_763 rfl (lv_at hl 4 rfl) ?_
  have hwc : wW G (fun q => s9.heap.size ≤ q) s9.heap (([] : va_W) ++ ((wMd G a ((mdChoose m (sx (i + 1))).2)) ++ (wLg G g (xs (exVar (sx (i + 1))) out (vp_updL out 0 ((rwTakeK rs (iN (sx (i + 1))) rs.1).1).toInt64)) ++ (wRw G r (xs (exVar (sx (i + 1))) rs (rs.1, rs.2.1, rs.2.2.1, rs.2.2.2.1, (rwTakeK rs (iN (sx (i + 1))) rs.1).2, rs.2.2.2.2.2.1, rs.2.2.2.2.2.2)) ++ (wOb G (o, x.1, y.1, r.1, b.1) (xs (exVar (sx (i + 1))) so (so.1, 0)) ++ (wAx G x tx ++ (wAx G y ty ++ (wBd G b bs)))))))) H locs := hw
  refine r_calli (res := (((mdChoose m (sx (i + 1))).2).1)) (u := ([] : va_W)) (w := wMd G a ((mdChoose m (sx (i + 1))).2)) (v := wLg G g (xs (exVar (sx (i + 1))) out (vp_updL out 0 ((rwTakeK rs (iN (sx (i + 1))) rs.1).1).toInt64)) ++ (wRw G r (xs (exVar (sx (i + 1))) rs (rs.1, rs.2.1, rs.2.2.1, rs.2.2.2.1, (rwTakeK rs (iN (sx (i + 1))) rs.1).2, rs.2.2.2.2.2.1, rs.2.2.2.2.2.2)) ++ (wOb G (o, x.1, y.1, r.1, b.1) (xs (exVar (sx (i + 1))) so (so.1, 0)) ++ (wAx G x tx ++ (wAx G y ty ++ (wBd G b bs)))))) (va_runV (As := []) (rest := []) ⟨hx, hb, hml, hown, hts⟩ (c_thrown l G a ((mdChoose m (sx (i + 1))).2) H.size) (cwV 0 hts gL_law_X5_thrown rfl rfl rfl (by decide +kernel) ⟨Nat.le_of_ble_eq_true rfl, Nat.le_of_ble_eq_true rfl⟩) (r_preV (ci := 5) (q0 := 0) hK hwc rfl rfl rfl) rfl rfl hl.1 rfl (lv_room (Nat.le_of_ble_eq_true rfl)) dL_law_764 ⟨show kc + 1 + 0 + 0 ≤ 601024 by omega, show ks + 6 + 0 + 0 ≤ 7293034 by omega⟩) hwc hA rfl rfl (fun H locs hw => ?_)
  have hw : wW G (fun q => s9.heap.size ≤ q) s9.heap (wMd G a ((mdChoose m (sx (i + 1))).2) ++ (wLg G g (xs (exVar (sx (i + 1))) out (vp_updL out 0 ((rwTakeK rs (iN (sx (i + 1))) rs.1).1).toInt64)) ++ (wRw G r (xs (exVar (sx (i + 1))) rs (rs.1, rs.2.1, rs.2.2.1, rs.2.2.2.1, (rwTakeK rs (iN (sx (i + 1))) rs.1).2, rs.2.2.2.2.2.1, rs.2.2.2.2.2.2)) ++ (wOb G (o, x.1, y.1, r.1, b.1) (xs (exVar (sx (i + 1))) so (so.1, 0)) ++ (wAx G x tx ++ (wAx G y ty ++ (wBd G b bs))))))) H locs := hw
  refine lv_iload hx hb dL_law_767 (lv_at hl 1 rfl) ?_
  refine lv_icmp_eq (tgt := 774) hx hb dL_law_769 (by decide) (fun c_769 => ?_) (fun c_769 => ?_)
  · refine lv_iload hx hb dL_law_774 (lv_at hl 1 rfl) ?_
    refine lv_if_ne (tgt := 791) hx hb dL_law_776 (by decide) (fun c_776 => ?_) (fun c_776 => ?_)
    · refine lv_goto (tgt := 1062) hx hb dL_law_791 (by decide) ?_
      exact W.widen (k := kc + 5) (n := ks + 30) (by omega) (by omega) (kk _ _ _ _ _ _ _ _ _ _ hR1 hw (lv_sub hl [2, 3, 4, 5, 6] rfl))
    · have hq := hout c_776
      refine lv_aload_n hx hb dL_law_779 rfl (lv_at hl 5 rfl) ?_
      refine lv_iconst (v := 0) hx hb dL_law_780 (by decide) ?_
      refine r_lald (v := (xs (exVar (sx (i + 1))) out (vp_updL out 0 ((rwTakeK rs (iN (sx (i + 1))) rs.1).1).toInt64)) 0) hx hb hK hw 22 rfl 0 rfl (by omega) (by decide) rfl dL_law_781 ?_
      refine lv_iload hx hb dL_law_782 (lv_at hl 0 rfl) ?_
      refine lv_i2l (v := ((mdChoose m (sx (i + 1))).1).toInt64) hx hb dL_law_784 rfl ?_
      refine W.lcmp hx hb dL_law_785 ?_
      refine lv_if_eq (tgt := 791) hx hb dL_law_786 (by decide) (fun c_786 => ?_) (fun c_786 => ?_)
      · refine lv_goto (tgt := 1062) hx hb dL_law_791 (by decide) ?_
        exact W.widen (k := kc + 5) (n := ks + 30) (by omega) (by omega) (kk _ _ _ _ _ _ _ _ _ _ hR1 hw (lv_sub hl [2, 3, 4, 5, 6] rfl))
      · exact absurd ((lg_cmp_eq _ _).mpr hq) c_786
  · exact absurd hth c_769

set_option maxHeartbeats 4000000 in
set_option maxRecDepth 100000 in
/-- the law: setBase -/
theorem lc_setBase {p9 : Program} {l : Launch} {e9 : Env} {s9 : State} {m9 : MethodId} {be9 : List Frame} {mt9 : Method} {c9 : Code} {sc L : Nat} {sx : Nat → Int32} {G : gT} {X : Nat → Nat} (C9 : lC p9 l s9 m9 mt9 c9 sc L sx G X) (a : aMd) (g o : Nat) (r : aRw) (x y : aAx) (b : aBd) {m : tMd} {out : Nat → Int64} {rs : tRw} {so : tOb} {tx ty : tAx} {bs : tBd} (hR : LR m rs so tx ty bs) {i : Nat} (hi : i + 5 ≤ L) {kc ks : Nat} (hkc : kc + 5 ≤ 601024) (hks : ks + 30 ≤ 7293034) (kk : lGo p9 l e9 s9 m9 be9 mt9 c9 sc G a g o r x y b i (kc + 5) (ks + 30)) {H : Heap} {locs : List Loc} {ls : Array Slot} (hw : wW G (fun q => s9.heap.size ≤ q) s9.heap (lWd G a g o r x y b m out rs so tx ty bs) H locs) (hl : lv_has ls 7 [(0, .ref sc), (1, .ref o), (2, .ref (a 0)), (3, .ref g), (4, .int (nI i))]) : W p9 l e9 room_1 s9 m9 #[.ref sc] be9 mt9 c9 H locs kc ks (lw_Z be9 #[.ref sc] s9) (F0 m9 794 ls []) := by
  obtain ⟨⟨hx, hb, -, hml, hown, hts0, hX, hbl, hlocks, -⟩, hL, hst, hK, hF, hN⟩ := C9
  have hts : ∀ w ∈ wsL_law, w.before #[Value.ref sc] s9 = true := fun w hw => hts0 w (wsL_law_in w hw)
  have hA : ∀ q : Nat, s9.heap.size ≤ q → (fun q : Nat => s9.heap.size ≤ q) q := fun _ h => h
  have hbA : ¬ (fun q : Nat => s9.heap.size ≤ q) sc := Nat.not_le.mpr hbl
  have hb8 : bs.2.1 ≤ 8 := by rw [hR.2.2.1.1.2.1]; exact hR.2.2.1.1.2.2.1
  have hw : wW G (fun q => s9.heap.size ≤ q) s9.heap (wMd G a m ++ (wLg G g out ++ (wRw G r rs ++ (wOb G (o, x.1, y.1, r.1, b.1) so ++ (wAx G x tx ++ (wAx G y ty ++ (wBd G b bs))))))) H locs := hw
  obtain ⟨hth, hout, hR1⟩ := lm_setBase hR (sx (i + 1)) (sx (i + 2)) (sx (i + 3)) out
  refine lv_aload_n hx hb dL_law_794 rfl (lv_at hl 1 rfl) ?_
  refine lv_aload_n hx hb dL_law_795 rfl (lv_at hl 0 rfl) ?_
  refine lv_iload hx hb dL_law_796 (lv_at hl 4 rfl) ?_
  refine lv_iconst (v := 1) hx hb dL_law_798 (by decide) ?_
  refine lv_iadd hx hb dL_law_799 ?_
  refine r_top (y := nI (i + 1)) (nI_add i 1) ?_
  refine va_sld hx hb hX hbl hbA hw.2.2 (vp_in_nI (show i + 1 < L by omega) (by omega)) dL_law_800 ?_
  refine r_top (y := sx (i + 1)) (congrArg sx (nI_clamp (show i + 1 < 2 ^ 31 by omega))) ?_
  refine lv_aload_n hx hb dL_law_801 rfl (lv_at hl 0 rfl) ?_
  refine lv_iload hx hb dL_law_802 (lv_at hl 4 rfl) ?_
  refine lv_iconst (v := 2) hx hb dL_law_804 (by decide) ?_
  refine lv_iadd hx hb dL_law_805 ?_
  refine r_top (y := nI (i + 2)) (nI_add i 2) ?_
  refine va_sld hx hb hX hbl hbA hw.2.2 (vp_in_nI (show i + 2 < L by omega) (by omega)) dL_law_806 ?_
  refine r_top (y := sx (i + 2)) (congrArg sx (nI_clamp (show i + 2 < 2 ^ 31 by omega))) ?_
  refine lv_aload_n hx hb dL_law_807 rfl (lv_at hl 0 rfl) ?_
  refine lv_iload hx hb dL_law_808 (lv_at hl 4 rfl) ?_
  refine lv_iconst (v := 3) hx hb dL_law_810 (by decide) ?_
  refine lv_iadd hx hb dL_law_811 ?_
  refine r_top (y := nI (i + 3)) (nI_add i 3) ?_
  refine va_sld hx hb hX hbl hbA hw.2.2 (vp_in_nI (show i + 3 < L by omega) (by omega)) dL_law_812 ?_
  refine r_top (y := sx (i + 3)) (congrArg sx (nI_clamp (show i + 3 < 2 ^ 31 by omega))) ?_
  refine lv_aload_n hx hb dL_law_813 rfl (lv_at hl 3 rfl) ?_
  have hwc : wW G (fun q => s9.heap.size ≤ q) s9.heap ((wMd G a m) ++ ((wLg G g out ++ (wRw G r rs ++ (wOb G (o, x.1, y.1, r.1, b.1) so ++ (wAx G x tx ++ (wAx G y ty ++ (wBd G b bs)))))) ++ ([] : va_W))) H locs := hw
  refine r_calli (res := (hcd 2 9 1 (exBase so.1 (sx (i + 1)) (sx (i + 2)) (sx (i + 3))))) (u := wMd G a m) (w := wLg G g out ++ (wRw G r rs ++ (wOb G (o, x.1, y.1, r.1, b.1) so ++ (wAx G x tx ++ (wAx G y ty ++ (wBd G b bs)))))) (v := ([] : va_W)) (vx_runSW (As := [.ref o, .int (sx (i + 1)), .int (sx (i + 2)), .int (sx (i + 3)), .ref g]) (rest := []) ⟨hx, hb, hml, hown, hts⟩ (c_L_setBase l G hst X g out r rs so x tx y ty b bs o (sx (i + 1)) (sx (i + 2)) (sx (i + 3)) (LRs.skOk hR) hb8 hR.2.2.1.2.1 hR.2.2.1.2.2.1 H.size) (vx_cwSW 5 hts gL_law_L_setBase rfl rfl rfl (by decide +kernel) ⟨Nat.le_of_ble_eq_true rfl, Nat.le_of_ble_eq_true rfl⟩) (h_preS hK hF hN hA hwc) rfl rfl hl.1 rfl (lv_room (Nat.le_of_ble_eq_true rfl)) dL_law_814 ⟨show kc + 3 ≤ 601024 by omega, show ks + 18 ≤ 7293034 by omega⟩) hwc hA rfl rfl (fun H locs hw => ?_)
  have hw : wW G (fun q => s9.heap.size ≤ q) s9.heap (wMd G a m ++ (wLg G g (xs (exBase so.1 (sx (i + 1)) (sx (i + 2)) (sx (i + 3))) out (vp_updL out 0 (b2l (if ((skB so rs tx ty (skBase bs (iN (sx (i + 1))) (iN (sx (i + 2))) (sx (i + 3)))).2.2.2.2 0).2.2.2.2.2.2.2.2.2 = 0 then 1 else 0)))) ++ (wRw G r (xs (exBase so.1 (sx (i + 1)) (sx (i + 2)) (sx (i + 3))) rs (rs.1, rs.2.1, rs.2.2.1, rs.2.2.2.1, rs.2.2.2.2.1, (skS so rs tx ty), rs.2.2.2.2.2.2)) ++ (wOb G (o, x.1, y.1, r.1, b.1) (xs (exBase so.1 (sx (i + 1)) (sx (i + 2)) (sx (i + 3))) so (so.1, skF so)) ++ (wAx G x (xs (exBase so.1 (sx (i + 1)) (sx (i + 2)) (sx (i + 3))) tx (skX so rs tx ty)) ++ (wAx G y (xs (exBase so.1 (sx (i + 1)) (sx (i + 2)) (sx (i + 3))) ty (skY so rs tx ty)) ++ (wBd G b (xs (exBase so.1 (sx (i + 1)) (sx (i + 2)) (sx (i + 3))) bs (skB so rs tx ty (skBase bs (iN (sx (i + 1))) (iN (sx (i + 2))) (sx (i + 3)))))))))))) H locs := wW.eq (by generalize exBase so.1 (sx (i + 1)) (sx (i + 2)) (sx (i + 3)) = E9; cases E9 <;> rfl) hw
  refine lv_istore (lv' := [(5, .int (hcd 2 9 1 (exBase so.1 (sx (i + 1)) (sx (i + 2)) (sx (i + 3))))), (0, .ref sc), (1, .ref o), (2, .ref (a 0)), (3, .ref g), (4, .int (nI i))]) hx hb dL_law_817 hl (by decide) rfl (fun ls hl => ?_)
  refine lv_aload_n hx hb dL_law_819 rfl (lv_at hl 3 rfl) ?_
  refine lv_aload_n hx hb dL_law_820 rfl (lv_at hl 1 rfl) ?_
  refine lv_iload hx hb dL_law_821 (lv_at hl 5 rfl) ?_
  refine lv_iconst (v := 1) hx hb dL_law_823 (by decide) ?_
  refine lv_iadd hx hb dL_law_824 ?_
  refine r_top (y := nI (i + 1)) (nI_add i 1) ?_
  refine va_sld hx hb hX hbl hbA hw.2.2 (vp_in_nI (show i + 1 < L by omega) (by omega)) dL_law_825 ?_
  refine r_top (y := sx (i + 1)) (congrArg sx (nI_clamp (show i + 1 < 2 ^ 31 by omega))) ?_
  refine lv_aload_n hx hb dL_law_826 rfl (lv_at hl 1 rfl) ?_
  refine lv_iload hx hb dL_law_827 (lv_at hl 5 rfl) ?_
  refine lv_iconst (v := 2) hx hb dL_law_829 (by decide) ?_
  refine lv_iadd hx hb dL_law_830 ?_
  refine r_top (y := nI (i + 2)) (nI_add i 2) ?_
  refine va_sld hx hb hX hbl hbA hw.2.2 (vp_in_nI (show i + 2 < L by omega) (by omega)) dL_law_831 ?_
  refine r_top (y := sx (i + 2)) (congrArg sx (nI_clamp (show i + 2 < 2 ^ 31 by omega))) ?_
  refine lv_aload_n hx hb dL_law_832 rfl (lv_at hl 1 rfl) ?_
  refine lv_iload hx hb dL_law_833 (lv_at hl 5 rfl) ?_
  refine lv_iconst (v := 3) hx hb dL_law_835 (by decide) ?_
  refine lv_iadd hx hb dL_law_836 ?_
  refine r_top (y := nI (i + 3)) (nI_add i 3) ?_
  refine va_sld hx hb hX hbl hbA hw.2.2 (vp_in_nI (show i + 3 < L by omega) (by omega)) dL_law_837 ?_
  refine r_top (y := sx (i + 3)) (congrArg sx (nI_clamp (show i + 3 < 2 ^ 31 by omega))) ?_
  have hwc : wW G (fun q => s9.heap.size ≤ q) s9.heap (([] : va_W) ++ ((wMd G a m) ++ (wLg G g (xs (exBase so.1 (sx (i + 1)) (sx (i + 2)) (sx (i + 3))) out (vp_updL out 0 (b2l (if ((skB so rs tx ty (skBase bs (iN (sx (i + 1))) (iN (sx (i + 2))) (sx (i + 3)))).2.2.2.2 0).2.2.2.2.2.2.2.2.2 = 0 then 1 else 0)))) ++ (wRw G r (xs (exBase so.1 (sx (i + 1)) (sx (i + 2)) (sx (i + 3))) rs (rs.1, rs.2.1, rs.2.2.1, rs.2.2.2.1, rs.2.2.2.2.1, (skS so rs tx ty), rs.2.2.2.2.2.2)) ++ (wOb G (o, x.1, y.1, r.1, b.1) (xs (exBase so.1 (sx (i + 1)) (sx (i + 2)) (sx (i + 3))) so (so.1, skF so)) ++ (wAx G x (xs (exBase so.1 (sx (i + 1)) (sx (i + 2)) (sx (i + 3))) tx (skX so rs tx ty)) ++ (wAx G y (xs (exBase so.1 (sx (i + 1)) (sx (i + 2)) (sx (i + 3))) ty (skY so rs tx ty)) ++ (wBd G b (xs (exBase so.1 (sx (i + 1)) (sx (i + 2)) (sx (i + 3))) bs (skB so rs tx ty (skBase bs (iN (sx (i + 1))) (iN (sx (i + 2))) (sx (i + 3))))))))))))) H locs := hw
  refine r_calli (res := ((mdSetB m (sx (i + 1)) (sx (i + 2)) (sx (i + 3))).1)) (u := ([] : va_W)) (w := wMd G a m) (v := wLg G g (xs (exBase so.1 (sx (i + 1)) (sx (i + 2)) (sx (i + 3))) out (vp_updL out 0 (b2l (if ((skB so rs tx ty (skBase bs (iN (sx (i + 1))) (iN (sx (i + 2))) (sx (i + 3)))).2.2.2.2 0).2.2.2.2.2.2.2.2.2 = 0 then 1 else 0)))) ++ (wRw G r (xs (exBase so.1 (sx (i + 1)) (sx (i + 2)) (sx (i + 3))) rs (rs.1, rs.2.1, rs.2.2.1, rs.2.2.2.1, rs.2.2.2.2.1, (skS so rs tx ty), rs.2.2.2.2.2.2)) ++ (wOb G (o, x.1, y.1, r.1, b.1) (xs (exBase so.1 (sx (i + 1)) (sx (i + 2)) (sx (i + 3))) so (so.1, skF so)) ++ (wAx G x (xs (exBase so.1 (sx (i + 1)) (sx (i + 2)) (sx (i + 3))) tx (skX so rs tx ty)) ++ (wAx G y (xs (exBase so.1 (sx (i + 1)) (sx (i + 2)) (sx (i + 3))) ty (skY so rs tx ty)) ++ (wBd G b (xs (exBase so.1 (sx (i + 1)) (sx (i + 2)) (sx (i + 3))) bs (skB so rs tx ty (skBase bs (iN (sx (i + 1))) (iN (sx (i + 2))) (sx (i + 3))))))))))) (va_runV (As := [.int (sx (i + 1)), .int (sx (i + 2)), .int (sx (i + 3))]) (rest := []) ⟨hx, hb, hml, hown, hts⟩ (c_m_setBase l G a m (sx (i + 1)) (sx (i + 2)) (sx (i + 3)) (LRs.mdOk hR) hR.np.2 (LRs.mdBok hR) H.size) (cwV 3 hts gL_law_X5_setBase rfl rfl rfl (by decide +kernel) ⟨Nat.le_of_ble_eq_true rfl, Nat.le_of_ble_eq_true rfl⟩) (r_preV (ci := 5) (q0 := 0) hK hwc rfl rfl rfl) rfl rfl hl.1 rfl (lv_room (Nat.le_of_ble_eq_true rfl)) dL_law_838 ⟨show kc + 3 + 0 ≤ 601024 by omega, show ks + 18 + 0 ≤ 7293034 by omega⟩) hwc hA rfl rfl (fun H locs hw => ?_)
  have hw : wW G (fun q => s9.heap.size ≤ q) s9.heap (wMd G a ((mdSetB m (sx (i + 1)) (sx (i + 2)) (sx (i + 3))).2) ++ (wLg G g (xs (exBase so.1 (sx (i + 1)) (sx (i + 2)) (sx (i + 3))) out (vp_updL out 0 (b2l (if ((skB so rs tx ty (skBase bs (iN (sx (i + 1))) (iN (sx (i + 2))) (sx (i + 3)))).2.2.2.2 0).2.2.2.2.2.2.2.2.2 = 0 then 1 else 0)))) ++ (wRw G r (xs (exBase so.1 (sx (i + 1)) (sx (i + 2)) (sx (i + 3))) rs (rs.1, rs.2.1, rs.2.2.1, rs.2.2.2.1, rs.2.2.2.2.1, (skS so rs tx ty), rs.2.2.2.2.2.2)) ++ (wOb G (o, x.1, y.1, r.1, b.1) (xs (exBase so.1 (sx (i + 1)) (sx (i + 2)) (sx (i + 3))) so (so.1, skF so)) ++ (wAx G x (xs (exBase so.1 (sx (i + 1)) (sx (i + 2)) (sx (i + 3))) tx (skX so rs tx ty)) ++ (wAx G y (xs (exBase so.1 (sx (i + 1)) (sx (i + 2)) (sx (i + 3))) ty (skY so rs tx ty)) ++ (wBd G b (xs (exBase so.1 (sx (i + 1)) (sx (i + 2)) (sx (i + 3))) bs (skB so rs tx ty (skBase bs (iN (sx (i + 1))) (iN (sx (i + 2))) (sx (i + 3)))))))))))) H locs := hw
  refine lv_istore (lv' := [(6, .int ((mdSetB m (sx (i + 1)) (sx (i + 2)) (sx (i + 3))).1)), (5, .int (hcd 2 9 1 (exBase so.1 (sx (i + 1)) (sx (i + 2)) (sx (i + 3))))), (0, .ref sc), (1, .ref o), (2, .ref (a 0)), (3, .ref g), (4, .int (nI i))]) hx hb dL_law_841 hl (by decide) rfl (fun ls hl => ?_)
  refine lv_aload_n hx hb dL_law_843 rfl (lv_at hl 4 rfl) ?_
  have hwc : wW G (fun q => s9.heap.size ≤ q) s9.heap (([] : va_W) ++ ((wMd G a ((mdSetB m (sx (i + 1)) (sx (i + 2)) (sx (i + 3))).2)) ++ (wLg G g (xs (exBase so.1 (sx (i + 1)) (sx (i + 2)) (sx (i + 3))) out (vp_updL out 0 (b2l (if ((skB so rs tx ty (skBase bs (iN (sx (i + 1))) (iN (sx (i + 2))) (sx (i + 3)))).2.2.2.2 0).2.2.2.2.2.2.2.2.2 = 0 then 1 else 0)))) ++ (wRw G r (xs (exBase so.1 (sx (i + 1)) (sx (i + 2)) (sx (i + 3))) rs (rs.1, rs.2.1, rs.2.2.1, rs.2.2.2.1, rs.2.2.2.2.1, (skS so rs tx ty), rs.2.2.2.2.2.2)) ++ (wOb G (o, x.1, y.1, r.1, b.1) (xs (exBase so.1 (sx (i + 1)) (sx (i + 2)) (sx (i + 3))) so (so.1, skF so)) ++ (wAx G x (xs (exBase so.1 (sx (i + 1)) (sx (i + 2)) (sx (i + 3))) tx (skX so rs tx ty)) ++ (wAx G y (xs (exBase so.1 (sx (i + 1)) (sx (i + 2)) (sx (i + 3))) ty (skY so rs tx ty)) ++ (wBd G b (xs (exBase so.1 (sx (i + 1)) (sx (i + 2)) (sx (i + 3))) bs (skB so rs tx ty (skBase bs (iN (sx (i + 1))) (iN (sx (i + 2))) (sx (i + 3))))))))))))) H locs := hw
  refine r_calli (res := (((mdSetB m (sx (i + 1)) (sx (i + 2)) (sx (i + 3))).2).1)) (u := ([] : va_W)) (w := wMd G a ((mdSetB m (sx (i + 1)) (sx (i + 2)) (sx (i + 3))).2)) (v := wLg G g (xs (exBase so.1 (sx (i + 1)) (sx (i + 2)) (sx (i + 3))) out (vp_updL out 0 (b2l (if ((skB so rs tx ty (skBase bs (iN (sx (i + 1))) (iN (sx (i + 2))) (sx (i + 3)))).2.2.2.2 0).2.2.2.2.2.2.2.2.2 = 0 then 1 else 0)))) ++ (wRw G r (xs (exBase so.1 (sx (i + 1)) (sx (i + 2)) (sx (i + 3))) rs (rs.1, rs.2.1, rs.2.2.1, rs.2.2.2.1, rs.2.2.2.2.1, (skS so rs tx ty), rs.2.2.2.2.2.2)) ++ (wOb G (o, x.1, y.1, r.1, b.1) (xs (exBase so.1 (sx (i + 1)) (sx (i + 2)) (sx (i + 3))) so (so.1, skF so)) ++ (wAx G x (xs (exBase so.1 (sx (i + 1)) (sx (i + 2)) (sx (i + 3))) tx (skX so rs tx ty)) ++ (wAx G y (xs (exBase so.1 (sx (i + 1)) (sx (i + 2)) (sx (i + 3))) ty (skY so rs tx ty)) ++ (wBd G b (xs (exBase so.1 (sx (i + 1)) (sx (i + 2)) (sx (i + 3))) bs (skB so rs tx ty (skBase bs (iN (sx (i + 1))) (iN (sx (i + 2))) (sx (i + 3))))))))))) (va_runV (As := []) (rest := []) ⟨hx, hb, hml, hown, hts⟩ (c_thrown l G a ((mdSetB m (sx (i + 1)) (sx (i + 2)) (sx (i + 3))).2) H.size) (cwV 0 hts gL_law_X5_thrown rfl rfl rfl (by decide +kernel) ⟨Nat.le_of_ble_eq_true rfl, Nat.le_of_ble_eq_true rfl⟩) (r_preV (ci := 5) (q0 := 0) hK hwc rfl rfl rfl) rfl rfl hl.1 rfl (lv_room (Nat.le_of_ble_eq_true rfl)) dL_law_844 ⟨show kc + 3 + 0 + 0 ≤ 601024 by omega, show ks + 18 + 0 + 0 ≤ 7293034 by omega⟩) hwc hA rfl rfl (fun H locs hw => ?_)
  have hw : wW G (fun q => s9.heap.size ≤ q) s9.heap (wMd G a ((mdSetB m (sx (i + 1)) (sx (i + 2)) (sx (i + 3))).2) ++ (wLg G g (xs (exBase so.1 (sx (i + 1)) (sx (i + 2)) (sx (i + 3))) out (vp_updL out 0 (b2l (if ((skB so rs tx ty (skBase bs (iN (sx (i + 1))) (iN (sx (i + 2))) (sx (i + 3)))).2.2.2.2 0).2.2.2.2.2.2.2.2.2 = 0 then 1 else 0)))) ++ (wRw G r (xs (exBase so.1 (sx (i + 1)) (sx (i + 2)) (sx (i + 3))) rs (rs.1, rs.2.1, rs.2.2.1, rs.2.2.2.1, rs.2.2.2.2.1, (skS so rs tx ty), rs.2.2.2.2.2.2)) ++ (wOb G (o, x.1, y.1, r.1, b.1) (xs (exBase so.1 (sx (i + 1)) (sx (i + 2)) (sx (i + 3))) so (so.1, skF so)) ++ (wAx G x (xs (exBase so.1 (sx (i + 1)) (sx (i + 2)) (sx (i + 3))) tx (skX so rs tx ty)) ++ (wAx G y (xs (exBase so.1 (sx (i + 1)) (sx (i + 2)) (sx (i + 3))) ty (skY so rs tx ty)) ++ (wBd G b (xs (exBase so.1 (sx (i + 1)) (sx (i + 2)) (sx (i + 3))) bs (skB so rs tx ty (skBase bs (iN (sx (i + 1))) (iN (sx (i + 2))) (sx (i + 3)))))))))))) H locs := hw
  refine lv_iload hx hb dL_law_847 (lv_at hl 1 rfl) ?_
  refine lv_icmp_eq (tgt := 854) hx hb dL_law_849 (by decide) (fun c_849 => ?_) (fun c_849 => ?_)
  · refine lv_iload hx hb dL_law_854 (lv_at hl 1 rfl) ?_
    refine lv_if_ne (tgt := 878) hx hb dL_law_856 (by decide) (fun c_856 => ?_) (fun c_856 => ?_)
    · refine lv_goto (tgt := 1062) hx hb dL_law_878 (by decide) ?_
      exact W.widen (k := kc + 5) (n := ks + 30) (by omega) (by omega) (kk _ _ _ _ _ _ _ _ _ _ hR1 hw (lv_sub hl [2, 3, 4, 5, 6] rfl))
    · have hq := hout c_856
      refine lv_aload_n hx hb dL_law_859 rfl (lv_at hl 5 rfl) ?_
      refine lv_iconst (v := 0) hx hb dL_law_860 (by decide) ?_
      refine r_lald (v := (xs (exBase so.1 (sx (i + 1)) (sx (i + 2)) (sx (i + 3))) out (vp_updL out 0 (b2l (if ((skB so rs tx ty (skBase bs (iN (sx (i + 1))) (iN (sx (i + 2))) (sx (i + 3)))).2.2.2.2 0).2.2.2.2.2.2.2.2.2 = 0 then 1 else 0)))) 0) hx hb hK hw 22 rfl 0 rfl (by omega) (by decide) rfl dL_law_861 ?_
      refine lv_iload hx hb dL_law_862 (lv_at hl 0 rfl) ?_
      refine lv_if_eq (tgt := 871) hx hb dL_law_864 (by decide) (fun c_864 => ?_) (fun c_864 => ?_)
      · have hq := hq.trans (show b2l _ = 0 by unfold b2l; rw [if_pos c_864])
        refine lv_lconst (v := 0) hx hb dL_law_871 (by decide) ?_
        refine W.lcmp hx hb dL_law_872 ?_
        refine lv_if_eq (tgt := 878) hx hb dL_law_873 (by decide) (fun c_873 => ?_) (fun c_873 => ?_)
        · refine lv_goto (tgt := 1062) hx hb dL_law_878 (by decide) ?_
          exact W.widen (k := kc + 5) (n := ks + 30) (by omega) (by omega) (kk _ _ _ _ _ _ _ _ _ _ hR1 hw (lv_sub hl [2, 3, 4, 5, 6] rfl))
        · exact absurd ((lg_cmp_eq _ _).mpr hq) c_873
      · have hq := hq.trans (show b2l _ = 1 by unfold b2l; rw [if_neg c_864])
        refine lv_lconst (v := 1) hx hb dL_law_867 (by decide) ?_
        refine lv_goto (tgt := 872) hx hb dL_law_868 (by decide) ?_
        refine W.lcmp hx hb dL_law_872 ?_
        refine lv_if_eq (tgt := 878) hx hb dL_law_873 (by decide) (fun c_873 => ?_) (fun c_873 => ?_)
        · refine lv_goto (tgt := 1062) hx hb dL_law_878 (by decide) ?_
          exact W.widen (k := kc + 5) (n := ks + 30) (by omega) (by omega) (kk _ _ _ _ _ _ _ _ _ _ hR1 hw (lv_sub hl [2, 3, 4, 5, 6] rfl))
        · exact absurd ((lg_cmp_eq _ _).mpr hq) c_873
  · exact absurd hth c_849

set_option maxHeartbeats 4000000 in
set_option maxRecDepth 100000 in
/-- the law: pocket -/
theorem lc_pocket {p9 : Program} {l : Launch} {e9 : Env} {s9 : State} {m9 : MethodId} {be9 : List Frame} {mt9 : Method} {c9 : Code} {sc L : Nat} {sx : Nat → Int32} {G : gT} {X : Nat → Nat} (C9 : lC p9 l s9 m9 mt9 c9 sc L sx G X) (a : aMd) (g o : Nat) (r : aRw) (x y : aAx) (b : aBd) {m : tMd} {out : Nat → Int64} {rs : tRw} {so : tOb} {tx ty : tAx} {bs : tBd} (hR : LR m rs so tx ty bs) {i : Nat} (hi : i + 5 ≤ L) {kc ks : Nat} (hkc : kc + 5 ≤ 601024) (hks : ks + 30 ≤ 7293034) (kk : lGo p9 l e9 s9 m9 be9 mt9 c9 sc G a g o r x y b i (kc + 5) (ks + 30)) {H : Heap} {locs : List Loc} {ls : Array Slot} (hw : wW G (fun q => s9.heap.size ≤ q) s9.heap (lWd G a g o r x y b m out rs so tx ty bs) H locs) (hl : lv_has ls 7 [(0, .ref sc), (1, .ref o), (2, .ref (a 0)), (3, .ref g), (4, .int (nI i))]) : W p9 l e9 room_1 s9 m9 #[.ref sc] be9 mt9 c9 H locs kc ks (lw_Z be9 #[.ref sc] s9) (F0 m9 881 ls []) := by
  obtain ⟨⟨hx, hb, -, hml, hown, hts0, hX, hbl, hlocks, -⟩, hL, hst, hK, hF, hN⟩ := C9
  have hts : ∀ w ∈ wsL_law, w.before #[Value.ref sc] s9 = true := fun w hw => hts0 w (wsL_law_in w hw)
  have hA : ∀ q : Nat, s9.heap.size ≤ q → (fun q : Nat => s9.heap.size ≤ q) q := fun _ h => h
  have hbA : ¬ (fun q : Nat => s9.heap.size ≤ q) sc := Nat.not_le.mpr hbl
  have hb8 : bs.2.1 ≤ 8 := by rw [hR.2.2.1.1.2.1]; exact hR.2.2.1.1.2.2.1
  have hw : wW G (fun q => s9.heap.size ≤ q) s9.heap (wMd G a m ++ (wLg G g out ++ (wRw G r rs ++ (wOb G (o, x.1, y.1, r.1, b.1) so ++ (wAx G x tx ++ (wAx G y ty ++ (wBd G b bs))))))) H locs := hw
  obtain ⟨hth, hout, hR1⟩ := lm_pocket hR (sx (i + 1)) (sx (i + 2)) (sx (i + 3)) (sx (i + 4)) out
  refine lv_aload_n hx hb dL_law_881 rfl (lv_at hl 1 rfl) ?_
  refine lv_aload_n hx hb dL_law_882 rfl (lv_at hl 0 rfl) ?_
  refine lv_iload hx hb dL_law_883 (lv_at hl 4 rfl) ?_
  refine lv_iconst (v := 1) hx hb dL_law_885 (by decide) ?_
  refine lv_iadd hx hb dL_law_886 ?_
  refine r_top (y := nI (i + 1)) (nI_add i 1) ?_
  refine va_sld hx hb hX hbl hbA hw.2.2 (vp_in_nI (show i + 1 < L by omega) (by omega)) dL_law_887 ?_
  refine r_top (y := sx (i + 1)) (congrArg sx (nI_clamp (show i + 1 < 2 ^ 31 by omega))) ?_
  refine lv_aload_n hx hb dL_law_888 rfl (lv_at hl 0 rfl) ?_
  refine lv_iload hx hb dL_law_889 (lv_at hl 4 rfl) ?_
  refine lv_iconst (v := 2) hx hb dL_law_891 (by decide) ?_
  refine lv_iadd hx hb dL_law_892 ?_
  refine r_top (y := nI (i + 2)) (nI_add i 2) ?_
  refine va_sld hx hb hX hbl hbA hw.2.2 (vp_in_nI (show i + 2 < L by omega) (by omega)) dL_law_893 ?_
  refine r_top (y := sx (i + 2)) (congrArg sx (nI_clamp (show i + 2 < 2 ^ 31 by omega))) ?_
  refine lv_aload_n hx hb dL_law_894 rfl (lv_at hl 0 rfl) ?_
  refine lv_iload hx hb dL_law_895 (lv_at hl 4 rfl) ?_
  refine lv_iconst (v := 3) hx hb dL_law_897 (by decide) ?_
  refine lv_iadd hx hb dL_law_898 ?_
  refine r_top (y := nI (i + 3)) (nI_add i 3) ?_
  refine va_sld hx hb hX hbl hbA hw.2.2 (vp_in_nI (show i + 3 < L by omega) (by omega)) dL_law_899 ?_
  refine r_top (y := sx (i + 3)) (congrArg sx (nI_clamp (show i + 3 < 2 ^ 31 by omega))) ?_
  refine lv_aload_n hx hb dL_law_900 rfl (lv_at hl 0 rfl) ?_
  refine lv_iload hx hb dL_law_901 (lv_at hl 4 rfl) ?_
  refine lv_iconst (v := 4) hx hb dL_law_903 (by decide) ?_
  refine lv_iadd hx hb dL_law_904 ?_
  refine r_top (y := nI (i + 4)) (nI_add i 4) ?_
  refine va_sld hx hb hX hbl hbA hw.2.2 (vp_in_nI (show i + 4 < L by omega) (by omega)) dL_law_905 ?_
  refine r_top (y := sx (i + 4)) (congrArg sx (nI_clamp (show i + 4 < 2 ^ 31 by omega))) ?_
  refine lv_aload_n hx hb dL_law_906 rfl (lv_at hl 3 rfl) ?_
  have hwc : wW G (fun q => s9.heap.size ≤ q) s9.heap ((wMd G a m) ++ ((wLg G g out ++ (wRw G r rs ++ (wOb G (o, x.1, y.1, r.1, b.1) so ++ (wAx G x tx ++ (wAx G y ty ++ (wBd G b bs)))))) ++ ([] : va_W))) H locs := hw
  refine r_calli (res := (hcd 2 3 1 (exPock so.1 bs.2.1 bs.1 (sx (i + 1)) (sx (i + 2)) (sx (i + 3)) (sx (i + 4))))) (u := wMd G a m) (w := wLg G g out ++ (wRw G r rs ++ (wOb G (o, x.1, y.1, r.1, b.1) so ++ (wAx G x tx ++ (wAx G y ty ++ (wBd G b bs)))))) (v := ([] : va_W)) (vx_runSW (As := [.ref o, .int (sx (i + 1)), .int (sx (i + 2)), .int (sx (i + 3)), .int (sx (i + 4)), .ref g]) (rest := []) ⟨hx, hb, hml, hown, hts⟩ (c_L_pocket l G hst X g out r rs so x tx y ty b bs o (sx (i + 1)) (sx (i + 2)) (sx (i + 3)) (sx (i + 4)) (LRs.skOk hR) hb8 hR.2.2.1.2.1 hR.2.2.1.2.2.1 H.size) (vx_cwSW 6 hts gL_law_L_pocket rfl rfl rfl (by decide +kernel) ⟨Nat.le_of_ble_eq_true rfl, Nat.le_of_ble_eq_true rfl⟩) (h_preS hK hF hN hA hwc) rfl rfl hl.1 rfl (lv_room (Nat.le_of_ble_eq_true rfl)) dL_law_907 ⟨show kc + 5 ≤ 601024 by omega, show ks + 30 ≤ 7293034 by omega⟩) hwc hA rfl rfl (fun H locs hw => ?_)
  have hw : wW G (fun q => s9.heap.size ≤ q) s9.heap (wMd G a m ++ (wLg G g (xs (exPock so.1 bs.2.1 bs.1 (sx (i + 1)) (sx (i + 2)) (sx (i + 3)) (sx (i + 4))) out (vp_updL out 0 (nI bs.2.1).toInt64)) ++ (wRw G r rs ++ (wOb G (o, x.1, y.1, r.1, b.1) so ++ (wAx G x tx ++ (wAx G y ty ++ (wBd G b (xs (exPock so.1 bs.2.1 bs.1 (sx (i + 1)) (sx (i + 2)) (sx (i + 3)) (sx (i + 4))) bs (skPock bs (iN (sx (i + 1))) (iN (sx (i + 2))) (sx (i + 3)) (sx (i + 4))))))))))) H locs := wW.eq (by generalize exPock so.1 bs.2.1 bs.1 (sx (i + 1)) (sx (i + 2)) (sx (i + 3)) (sx (i + 4)) = E9; cases E9 <;> rfl) hw
  refine lv_istore (lv' := [(5, .int (hcd 2 3 1 (exPock so.1 bs.2.1 bs.1 (sx (i + 1)) (sx (i + 2)) (sx (i + 3)) (sx (i + 4))))), (0, .ref sc), (1, .ref o), (2, .ref (a 0)), (3, .ref g), (4, .int (nI i))]) hx hb dL_law_910 hl (by decide) rfl (fun ls hl => ?_)
  refine lv_aload_n hx hb dL_law_912 rfl (lv_at hl 3 rfl) ?_
  refine lv_aload_n hx hb dL_law_913 rfl (lv_at hl 1 rfl) ?_
  refine lv_iload hx hb dL_law_914 (lv_at hl 5 rfl) ?_
  refine lv_iconst (v := 1) hx hb dL_law_916 (by decide) ?_
  refine lv_iadd hx hb dL_law_917 ?_
  refine r_top (y := nI (i + 1)) (nI_add i 1) ?_
  refine va_sld hx hb hX hbl hbA hw.2.2 (vp_in_nI (show i + 1 < L by omega) (by omega)) dL_law_918 ?_
  refine r_top (y := sx (i + 1)) (congrArg sx (nI_clamp (show i + 1 < 2 ^ 31 by omega))) ?_
  refine lv_aload_n hx hb dL_law_919 rfl (lv_at hl 1 rfl) ?_
  refine lv_iload hx hb dL_law_920 (lv_at hl 5 rfl) ?_
  refine lv_iconst (v := 2) hx hb dL_law_922 (by decide) ?_
  refine lv_iadd hx hb dL_law_923 ?_
  refine r_top (y := nI (i + 2)) (nI_add i 2) ?_
  refine va_sld hx hb hX hbl hbA hw.2.2 (vp_in_nI (show i + 2 < L by omega) (by omega)) dL_law_924 ?_
  refine r_top (y := sx (i + 2)) (congrArg sx (nI_clamp (show i + 2 < 2 ^ 31 by omega))) ?_
  refine lv_aload_n hx hb dL_law_925 rfl (lv_at hl 1 rfl) ?_
  refine lv_iload hx hb dL_law_926 (lv_at hl 5 rfl) ?_
  refine lv_iconst (v := 3) hx hb dL_law_928 (by decide) ?_
  refine lv_iadd hx hb dL_law_929 ?_
  refine r_top (y := nI (i + 3)) (nI_add i 3) ?_
  refine va_sld hx hb hX hbl hbA hw.2.2 (vp_in_nI (show i + 3 < L by omega) (by omega)) dL_law_930 ?_
  refine r_top (y := sx (i + 3)) (congrArg sx (nI_clamp (show i + 3 < 2 ^ 31 by omega))) ?_
  refine lv_aload_n hx hb dL_law_931 rfl (lv_at hl 1 rfl) ?_
  refine lv_iload hx hb dL_law_932 (lv_at hl 5 rfl) ?_
  refine lv_iconst (v := 4) hx hb dL_law_934 (by decide) ?_
  refine lv_iadd hx hb dL_law_935 ?_
  refine r_top (y := nI (i + 4)) (nI_add i 4) ?_
  refine va_sld hx hb hX hbl hbA hw.2.2 (vp_in_nI (show i + 4 < L by omega) (by omega)) dL_law_936 ?_
  refine r_top (y := sx (i + 4)) (congrArg sx (nI_clamp (show i + 4 < 2 ^ 31 by omega))) ?_
  have hwc : wW G (fun q => s9.heap.size ≤ q) s9.heap (([] : va_W) ++ ((wMd G a m) ++ (wLg G g (xs (exPock so.1 bs.2.1 bs.1 (sx (i + 1)) (sx (i + 2)) (sx (i + 3)) (sx (i + 4))) out (vp_updL out 0 (nI bs.2.1).toInt64)) ++ (wRw G r rs ++ (wOb G (o, x.1, y.1, r.1, b.1) so ++ (wAx G x tx ++ (wAx G y ty ++ (wBd G b (xs (exPock so.1 bs.2.1 bs.1 (sx (i + 1)) (sx (i + 2)) (sx (i + 3)) (sx (i + 4))) bs (skPock bs (iN (sx (i + 1))) (iN (sx (i + 2))) (sx (i + 3)) (sx (i + 4)))))))))))) H locs := hw
  refine r_calli (res := ((mdPocket m (sx (i + 1)) (sx (i + 2)) (sx (i + 3)) (sx (i + 4))).1)) (u := ([] : va_W)) (w := wMd G a m) (v := wLg G g (xs (exPock so.1 bs.2.1 bs.1 (sx (i + 1)) (sx (i + 2)) (sx (i + 3)) (sx (i + 4))) out (vp_updL out 0 (nI bs.2.1).toInt64)) ++ (wRw G r rs ++ (wOb G (o, x.1, y.1, r.1, b.1) so ++ (wAx G x tx ++ (wAx G y ty ++ (wBd G b (xs (exPock so.1 bs.2.1 bs.1 (sx (i + 1)) (sx (i + 2)) (sx (i + 3)) (sx (i + 4))) bs (skPock bs (iN (sx (i + 1))) (iN (sx (i + 2))) (sx (i + 3)) (sx (i + 4)))))))))) (va_runV (As := [.int (sx (i + 1)), .int (sx (i + 2)), .int (sx (i + 3)), .int (sx (i + 4))]) (rest := []) ⟨hx, hb, hml, hown, hts⟩ (c_m_pocket l G a m (sx (i + 1)) (sx (i + 2)) (sx (i + 3)) (sx (i + 4)) hR.np.2 (LRs.mdBok hR) H.size) (cwV 4 hts gL_law_X5_pocket rfl rfl rfl (by decide +kernel) ⟨Nat.le_of_ble_eq_true rfl, Nat.le_of_ble_eq_true rfl⟩) (r_preV (ci := 5) (q0 := 0) hK hwc rfl rfl rfl) rfl rfl hl.1 rfl (lv_room (Nat.le_of_ble_eq_true rfl)) dL_law_937 ⟨show kc + 5 + 0 ≤ 601024 by omega, show ks + 30 + 0 ≤ 7293034 by omega⟩) hwc hA rfl rfl (fun H locs hw => ?_)
  have hw : wW G (fun q => s9.heap.size ≤ q) s9.heap (wMd G a ((mdPocket m (sx (i + 1)) (sx (i + 2)) (sx (i + 3)) (sx (i + 4))).2) ++ (wLg G g (xs (exPock so.1 bs.2.1 bs.1 (sx (i + 1)) (sx (i + 2)) (sx (i + 3)) (sx (i + 4))) out (vp_updL out 0 (nI bs.2.1).toInt64)) ++ (wRw G r rs ++ (wOb G (o, x.1, y.1, r.1, b.1) so ++ (wAx G x tx ++ (wAx G y ty ++ (wBd G b (xs (exPock so.1 bs.2.1 bs.1 (sx (i + 1)) (sx (i + 2)) (sx (i + 3)) (sx (i + 4))) bs (skPock bs (iN (sx (i + 1))) (iN (sx (i + 2))) (sx (i + 3)) (sx (i + 4))))))))))) H locs := hw
  refine lv_istore (lv' := [(6, .int ((mdPocket m (sx (i + 1)) (sx (i + 2)) (sx (i + 3)) (sx (i + 4))).1)), (5, .int (hcd 2 3 1 (exPock so.1 bs.2.1 bs.1 (sx (i + 1)) (sx (i + 2)) (sx (i + 3)) (sx (i + 4))))), (0, .ref sc), (1, .ref o), (2, .ref (a 0)), (3, .ref g), (4, .int (nI i))]) hx hb dL_law_940 hl (by decide) rfl (fun ls hl => ?_)
  refine lv_aload_n hx hb dL_law_942 rfl (lv_at hl 4 rfl) ?_
  have hwc : wW G (fun q => s9.heap.size ≤ q) s9.heap (([] : va_W) ++ ((wMd G a ((mdPocket m (sx (i + 1)) (sx (i + 2)) (sx (i + 3)) (sx (i + 4))).2)) ++ (wLg G g (xs (exPock so.1 bs.2.1 bs.1 (sx (i + 1)) (sx (i + 2)) (sx (i + 3)) (sx (i + 4))) out (vp_updL out 0 (nI bs.2.1).toInt64)) ++ (wRw G r rs ++ (wOb G (o, x.1, y.1, r.1, b.1) so ++ (wAx G x tx ++ (wAx G y ty ++ (wBd G b (xs (exPock so.1 bs.2.1 bs.1 (sx (i + 1)) (sx (i + 2)) (sx (i + 3)) (sx (i + 4))) bs (skPock bs (iN (sx (i + 1))) (iN (sx (i + 2))) (sx (i + 3)) (sx (i + 4)))))))))))) H locs := hw
  refine r_calli (res := (((mdPocket m (sx (i + 1)) (sx (i + 2)) (sx (i + 3)) (sx (i + 4))).2).1)) (u := ([] : va_W)) (w := wMd G a ((mdPocket m (sx (i + 1)) (sx (i + 2)) (sx (i + 3)) (sx (i + 4))).2)) (v := wLg G g (xs (exPock so.1 bs.2.1 bs.1 (sx (i + 1)) (sx (i + 2)) (sx (i + 3)) (sx (i + 4))) out (vp_updL out 0 (nI bs.2.1).toInt64)) ++ (wRw G r rs ++ (wOb G (o, x.1, y.1, r.1, b.1) so ++ (wAx G x tx ++ (wAx G y ty ++ (wBd G b (xs (exPock so.1 bs.2.1 bs.1 (sx (i + 1)) (sx (i + 2)) (sx (i + 3)) (sx (i + 4))) bs (skPock bs (iN (sx (i + 1))) (iN (sx (i + 2))) (sx (i + 3)) (sx (i + 4)))))))))) (va_runV (As := []) (rest := []) ⟨hx, hb, hml, hown, hts⟩ (c_thrown l G a ((mdPocket m (sx (i + 1)) (sx (i + 2)) (sx (i + 3)) (sx (i + 4))).2) H.size) (cwV 0 hts gL_law_X5_thrown rfl rfl rfl (by decide +kernel) ⟨Nat.le_of_ble_eq_true rfl, Nat.le_of_ble_eq_true rfl⟩) (r_preV (ci := 5) (q0 := 0) hK hwc rfl rfl rfl) rfl rfl hl.1 rfl (lv_room (Nat.le_of_ble_eq_true rfl)) dL_law_943 ⟨show kc + 5 + 0 + 0 ≤ 601024 by omega, show ks + 30 + 0 + 0 ≤ 7293034 by omega⟩) hwc hA rfl rfl (fun H locs hw => ?_)
  have hw : wW G (fun q => s9.heap.size ≤ q) s9.heap (wMd G a ((mdPocket m (sx (i + 1)) (sx (i + 2)) (sx (i + 3)) (sx (i + 4))).2) ++ (wLg G g (xs (exPock so.1 bs.2.1 bs.1 (sx (i + 1)) (sx (i + 2)) (sx (i + 3)) (sx (i + 4))) out (vp_updL out 0 (nI bs.2.1).toInt64)) ++ (wRw G r rs ++ (wOb G (o, x.1, y.1, r.1, b.1) so ++ (wAx G x tx ++ (wAx G y ty ++ (wBd G b (xs (exPock so.1 bs.2.1 bs.1 (sx (i + 1)) (sx (i + 2)) (sx (i + 3)) (sx (i + 4))) bs (skPock bs (iN (sx (i + 1))) (iN (sx (i + 2))) (sx (i + 3)) (sx (i + 4))))))))))) H locs := hw
  refine lv_iload hx hb dL_law_946 (lv_at hl 1 rfl) ?_
  refine lv_icmp_eq (tgt := 953) hx hb dL_law_948 (by decide) (fun c_948 => ?_) (fun c_948 => ?_)
  · refine lv_iload hx hb dL_law_953 (lv_at hl 1 rfl) ?_
    refine lv_if_ne (tgt := 970) hx hb dL_law_955 (by decide) (fun c_955 => ?_) (fun c_955 => ?_)
    · refine lv_goto (tgt := 1062) hx hb dL_law_970 (by decide) ?_
      exact W.widen (k := kc + 5) (n := ks + 30) (by omega) (by omega) (kk _ _ _ _ _ _ _ _ _ _ hR1 hw (lv_sub hl [2, 3, 4, 5, 6] rfl))
    · have hq := hout c_955
      refine lv_aload_n hx hb dL_law_958 rfl (lv_at hl 5 rfl) ?_
      refine lv_iconst (v := 0) hx hb dL_law_959 (by decide) ?_
      refine r_lald (v := (xs (exPock so.1 bs.2.1 bs.1 (sx (i + 1)) (sx (i + 2)) (sx (i + 3)) (sx (i + 4))) out (vp_updL out 0 (nI bs.2.1).toInt64)) 0) hx hb hK hw 22 rfl 0 rfl (by omega) (by decide) rfl dL_law_960 ?_
      refine lv_iload hx hb dL_law_961 (lv_at hl 0 rfl) ?_
      refine lv_i2l (v := ((mdPocket m (sx (i + 1)) (sx (i + 2)) (sx (i + 3)) (sx (i + 4))).1).toInt64) hx hb dL_law_963 rfl ?_
      refine W.lcmp hx hb dL_law_964 ?_
      refine lv_if_eq (tgt := 970) hx hb dL_law_965 (by decide) (fun c_965 => ?_) (fun c_965 => ?_)
      · refine lv_goto (tgt := 1062) hx hb dL_law_970 (by decide) ?_
        exact W.widen (k := kc + 5) (n := ks + 30) (by omega) (by omega) (kk _ _ _ _ _ _ _ _ _ _ hR1 hw (lv_sub hl [2, 3, 4, 5, 6] rfl))
      · exact absurd ((lg_cmp_eq _ _).mpr hq) c_965
  · exact absurd hth c_948

set_option maxHeartbeats 4000000 in
set_option maxRecDepth 100000 in
/-- the law: fails -/
theorem lc_fails {p9 : Program} {l : Launch} {e9 : Env} {s9 : State} {m9 : MethodId} {be9 : List Frame} {mt9 : Method} {c9 : Code} {sc L : Nat} {sx : Nat → Int32} {G : gT} {X : Nat → Nat} (C9 : lC p9 l s9 m9 mt9 c9 sc L sx G X) (a : aMd) (g o : Nat) (r : aRw) (x y : aAx) (b : aBd) {m : tMd} {out : Nat → Int64} {rs : tRw} {so : tOb} {tx ty : tAx} {bs : tBd} (hR : LR m rs so tx ty bs) {i : Nat} (hi : i + 5 ≤ L) {kc ks : Nat} (hkc : kc + 5 ≤ 601024) (hks : ks + 30 ≤ 7293034) (kk : lGo p9 l e9 s9 m9 be9 mt9 c9 sc G a g o r x y b i (kc + 5) (ks + 30)) {H : Heap} {locs : List Loc} {ls : Array Slot} (hw : wW G (fun q => s9.heap.size ≤ q) s9.heap (lWd G a g o r x y b m out rs so tx ty bs) H locs) (hl : lv_has ls 7 [(0, .ref sc), (1, .ref o), (2, .ref (a 0)), (3, .ref g), (4, .int (nI i))]) : W p9 l e9 room_1 s9 m9 #[.ref sc] be9 mt9 c9 H locs kc ks (lw_Z be9 #[.ref sc] s9) (F0 m9 973 ls []) := by
  obtain ⟨⟨hx, hb, -, hml, hown, hts0, hX, hbl, hlocks, -⟩, hL, hst, hK, hF, hN⟩ := C9
  have hts : ∀ w ∈ wsL_law, w.before #[Value.ref sc] s9 = true := fun w hw => hts0 w (wsL_law_in w hw)
  have hA : ∀ q : Nat, s9.heap.size ≤ q → (fun q : Nat => s9.heap.size ≤ q) q := fun _ h => h
  have hbA : ¬ (fun q : Nat => s9.heap.size ≤ q) sc := Nat.not_le.mpr hbl
  have hb8 : bs.2.1 ≤ 8 := by rw [hR.2.2.1.1.2.1]; exact hR.2.2.1.1.2.2.1
  have hw : wW G (fun q => s9.heap.size ≤ q) s9.heap (wMd G a m ++ (wLg G g out ++ (wRw G r rs ++ (wOb G (o, x.1, y.1, r.1, b.1) so ++ (wAx G x tx ++ (wAx G y ty ++ (wBd G b bs))))))) H locs := hw
  obtain ⟨hth, hout, hR1⟩ := lm_fails hR (sx (i + 1)) out
  refine lv_aload_n hx hb dL_law_973 rfl (lv_at hl 1 rfl) ?_
  refine lv_aload_n hx hb dL_law_974 rfl (lv_at hl 0 rfl) ?_
  refine lv_iload hx hb dL_law_975 (lv_at hl 4 rfl) ?_
  refine lv_iconst (v := 1) hx hb dL_law_977 (by decide) ?_
  refine lv_iadd hx hb dL_law_978 ?_
  refine r_top (y := nI (i + 1)) (nI_add i 1) ?_
  refine va_sld hx hb hX hbl hbA hw.2.2 (vp_in_nI (show i + 1 < L by omega) (by omega)) dL_law_979 ?_
  refine r_top (y := sx (i + 1)) (congrArg sx (nI_clamp (show i + 1 < 2 ^ 31 by omega))) ?_
  refine lv_aload_n hx hb dL_law_980 rfl (lv_at hl 3 rfl) ?_
  have hwc : wW G (fun q => s9.heap.size ≤ q) s9.heap ((wMd G a m) ++ ((wLg G g out ++ (wRw G r rs ++ (wOb G (o, x.1, y.1, r.1, b.1) so ++ (wAx G x tx ++ (wAx G y ty ++ (wBd G b bs)))))) ++ ([] : va_W))) H locs := hw
  refine r_calli (res := (hcd 9 9 1 (exIn bs.2.1 (sx (i + 1))))) (u := wMd G a m) (w := wLg G g out ++ (wRw G r rs ++ (wOb G (o, x.1, y.1, r.1, b.1) so ++ (wAx G x tx ++ (wAx G y ty ++ (wBd G b bs)))))) (v := ([] : va_W)) (vx_runSW (As := [.ref o, .int (sx (i + 1)), .ref g]) (rest := []) ⟨hx, hb, hml, hown, hts⟩ (c_L_fails l G hst X g out r rs so x tx y ty b bs o (sx (i + 1)) (LRs.skOk hR) hb8 hR.2.2.1.2.1 hR.2.2.1.2.2.1 H.size) (vx_cwSW 3 hts gL_law_L_fails rfl rfl rfl (by decide +kernel) ⟨Nat.le_of_ble_eq_true rfl, Nat.le_of_ble_eq_true rfl⟩) (h_preS hK hF hN hA hwc) rfl rfl hl.1 rfl (lv_room (Nat.le_of_ble_eq_true rfl)) dL_law_981 ⟨show kc + 1 ≤ 601024 by omega, show ks + 6 ≤ 7293034 by omega⟩) hwc hA rfl rfl (fun H locs hw => ?_)
  have hw : wW G (fun q => s9.heap.size ≤ q) s9.heap (wMd G a m ++ (wLg G g (xs (exIn bs.2.1 (sx (i + 1))) out (vp_updL out 0 (b2l ((skB so rs tx ty bs).2.2.2.2 (iN (sx (i + 1)) + 1)).2.2.2.2.2.2.2.2.2))) ++ (wRw G r (xs (exIn bs.2.1 (sx (i + 1))) rs (rs.1, rs.2.1, rs.2.2.1, rs.2.2.2.1, rs.2.2.2.2.1, (skS so rs tx ty), rs.2.2.2.2.2.2)) ++ (wOb G (o, x.1, y.1, r.1, b.1) (xs (exIn bs.2.1 (sx (i + 1))) so (so.1, skF so)) ++ (wAx G x (xs (exIn bs.2.1 (sx (i + 1))) tx (skX so rs tx ty)) ++ (wAx G y (xs (exIn bs.2.1 (sx (i + 1))) ty (skY so rs tx ty)) ++ (wBd G b (xs (exIn bs.2.1 (sx (i + 1))) bs (skB so rs tx ty bs))))))))) H locs := wW.eq (by generalize exIn bs.2.1 (sx (i + 1)) = E9; cases E9 <;> rfl) hw
  refine lv_istore (lv' := [(5, .int (hcd 9 9 1 (exIn bs.2.1 (sx (i + 1))))), (0, .ref sc), (1, .ref o), (2, .ref (a 0)), (3, .ref g), (4, .int (nI i))]) hx hb dL_law_984 hl (by decide) rfl (fun ls hl => ?_)
  refine lv_aload_n hx hb dL_law_986 rfl (lv_at hl 3 rfl) ?_
  refine lv_aload_n hx hb dL_law_987 rfl (lv_at hl 1 rfl) ?_
  refine lv_iload hx hb dL_law_988 (lv_at hl 5 rfl) ?_
  refine lv_iconst (v := 1) hx hb dL_law_990 (by decide) ?_
  refine lv_iadd hx hb dL_law_991 ?_
  refine r_top (y := nI (i + 1)) (nI_add i 1) ?_
  refine va_sld hx hb hX hbl hbA hw.2.2 (vp_in_nI (show i + 1 < L by omega) (by omega)) dL_law_992 ?_
  refine r_top (y := sx (i + 1)) (congrArg sx (nI_clamp (show i + 1 < 2 ^ 31 by omega))) ?_
  have hwc : wW G (fun q => s9.heap.size ≤ q) s9.heap (([] : va_W) ++ ((wMd G a m) ++ (wLg G g (xs (exIn bs.2.1 (sx (i + 1))) out (vp_updL out 0 (b2l ((skB so rs tx ty bs).2.2.2.2 (iN (sx (i + 1)) + 1)).2.2.2.2.2.2.2.2.2))) ++ (wRw G r (xs (exIn bs.2.1 (sx (i + 1))) rs (rs.1, rs.2.1, rs.2.2.1, rs.2.2.2.1, rs.2.2.2.2.1, (skS so rs tx ty), rs.2.2.2.2.2.2)) ++ (wOb G (o, x.1, y.1, r.1, b.1) (xs (exIn bs.2.1 (sx (i + 1))) so (so.1, skF so)) ++ (wAx G x (xs (exIn bs.2.1 (sx (i + 1))) tx (skX so rs tx ty)) ++ (wAx G y (xs (exIn bs.2.1 (sx (i + 1))) ty (skY so rs tx ty)) ++ (wBd G b (xs (exIn bs.2.1 (sx (i + 1))) bs (skB so rs tx ty bs)))))))))) H locs := hw
  refine r_calli (res := ((mdFails m (sx (i + 1))).1)) (u := ([] : va_W)) (w := wMd G a m) (v := wLg G g (xs (exIn bs.2.1 (sx (i + 1))) out (vp_updL out 0 (b2l ((skB so rs tx ty bs).2.2.2.2 (iN (sx (i + 1)) + 1)).2.2.2.2.2.2.2.2.2))) ++ (wRw G r (xs (exIn bs.2.1 (sx (i + 1))) rs (rs.1, rs.2.1, rs.2.2.1, rs.2.2.2.1, rs.2.2.2.2.1, (skS so rs tx ty), rs.2.2.2.2.2.2)) ++ (wOb G (o, x.1, y.1, r.1, b.1) (xs (exIn bs.2.1 (sx (i + 1))) so (so.1, skF so)) ++ (wAx G x (xs (exIn bs.2.1 (sx (i + 1))) tx (skX so rs tx ty)) ++ (wAx G y (xs (exIn bs.2.1 (sx (i + 1))) ty (skY so rs tx ty)) ++ (wBd G b (xs (exIn bs.2.1 (sx (i + 1))) bs (skB so rs tx ty bs)))))))) (va_runV (As := [.int (sx (i + 1))]) (rest := []) ⟨hx, hb, hml, hown, hts⟩ (c_m_fails l G a m (sx (i + 1)) (LRs.mdOk hR) (LRs.mdBok hR) H.size) (cwV 1 hts gL_law_X5_fails rfl rfl rfl (by decide +kernel) ⟨Nat.le_of_ble_eq_true rfl, Nat.le_of_ble_eq_true rfl⟩) (r_preV (ci := 5) (q0 := 0) hK hwc rfl rfl rfl) rfl rfl hl.1 rfl (lv_room (Nat.le_of_ble_eq_true rfl)) dL_law_993 ⟨show kc + 1 + 0 ≤ 601024 by omega, show ks + 6 + 0 ≤ 7293034 by omega⟩) hwc hA rfl rfl (fun H locs hw => ?_)
  have hw : wW G (fun q => s9.heap.size ≤ q) s9.heap (wMd G a ((mdFails m (sx (i + 1))).2) ++ (wLg G g (xs (exIn bs.2.1 (sx (i + 1))) out (vp_updL out 0 (b2l ((skB so rs tx ty bs).2.2.2.2 (iN (sx (i + 1)) + 1)).2.2.2.2.2.2.2.2.2))) ++ (wRw G r (xs (exIn bs.2.1 (sx (i + 1))) rs (rs.1, rs.2.1, rs.2.2.1, rs.2.2.2.1, rs.2.2.2.2.1, (skS so rs tx ty), rs.2.2.2.2.2.2)) ++ (wOb G (o, x.1, y.1, r.1, b.1) (xs (exIn bs.2.1 (sx (i + 1))) so (so.1, skF so)) ++ (wAx G x (xs (exIn bs.2.1 (sx (i + 1))) tx (skX so rs tx ty)) ++ (wAx G y (xs (exIn bs.2.1 (sx (i + 1))) ty (skY so rs tx ty)) ++ (wBd G b (xs (exIn bs.2.1 (sx (i + 1))) bs (skB so rs tx ty bs))))))))) H locs := hw
  refine lv_istore (lv' := [(6, .int ((mdFails m (sx (i + 1))).1)), (5, .int (hcd 9 9 1 (exIn bs.2.1 (sx (i + 1))))), (0, .ref sc), (1, .ref o), (2, .ref (a 0)), (3, .ref g), (4, .int (nI i))]) hx hb dL_law_996 hl (by decide) rfl (fun ls hl => ?_)
  refine lv_aload_n hx hb dL_law_998 rfl (lv_at hl 4 rfl) ?_
  have hwc : wW G (fun q => s9.heap.size ≤ q) s9.heap (([] : va_W) ++ ((wMd G a ((mdFails m (sx (i + 1))).2)) ++ (wLg G g (xs (exIn bs.2.1 (sx (i + 1))) out (vp_updL out 0 (b2l ((skB so rs tx ty bs).2.2.2.2 (iN (sx (i + 1)) + 1)).2.2.2.2.2.2.2.2.2))) ++ (wRw G r (xs (exIn bs.2.1 (sx (i + 1))) rs (rs.1, rs.2.1, rs.2.2.1, rs.2.2.2.1, rs.2.2.2.2.1, (skS so rs tx ty), rs.2.2.2.2.2.2)) ++ (wOb G (o, x.1, y.1, r.1, b.1) (xs (exIn bs.2.1 (sx (i + 1))) so (so.1, skF so)) ++ (wAx G x (xs (exIn bs.2.1 (sx (i + 1))) tx (skX so rs tx ty)) ++ (wAx G y (xs (exIn bs.2.1 (sx (i + 1))) ty (skY so rs tx ty)) ++ (wBd G b (xs (exIn bs.2.1 (sx (i + 1))) bs (skB so rs tx ty bs)))))))))) H locs := hw
  refine r_calli (res := (((mdFails m (sx (i + 1))).2).1)) (u := ([] : va_W)) (w := wMd G a ((mdFails m (sx (i + 1))).2)) (v := wLg G g (xs (exIn bs.2.1 (sx (i + 1))) out (vp_updL out 0 (b2l ((skB so rs tx ty bs).2.2.2.2 (iN (sx (i + 1)) + 1)).2.2.2.2.2.2.2.2.2))) ++ (wRw G r (xs (exIn bs.2.1 (sx (i + 1))) rs (rs.1, rs.2.1, rs.2.2.1, rs.2.2.2.1, rs.2.2.2.2.1, (skS so rs tx ty), rs.2.2.2.2.2.2)) ++ (wOb G (o, x.1, y.1, r.1, b.1) (xs (exIn bs.2.1 (sx (i + 1))) so (so.1, skF so)) ++ (wAx G x (xs (exIn bs.2.1 (sx (i + 1))) tx (skX so rs tx ty)) ++ (wAx G y (xs (exIn bs.2.1 (sx (i + 1))) ty (skY so rs tx ty)) ++ (wBd G b (xs (exIn bs.2.1 (sx (i + 1))) bs (skB so rs tx ty bs)))))))) (va_runV (As := []) (rest := []) ⟨hx, hb, hml, hown, hts⟩ (c_thrown l G a ((mdFails m (sx (i + 1))).2) H.size) (cwV 0 hts gL_law_X5_thrown rfl rfl rfl (by decide +kernel) ⟨Nat.le_of_ble_eq_true rfl, Nat.le_of_ble_eq_true rfl⟩) (r_preV (ci := 5) (q0 := 0) hK hwc rfl rfl rfl) rfl rfl hl.1 rfl (lv_room (Nat.le_of_ble_eq_true rfl)) dL_law_999 ⟨show kc + 1 + 0 + 0 ≤ 601024 by omega, show ks + 6 + 0 + 0 ≤ 7293034 by omega⟩) hwc hA rfl rfl (fun H locs hw => ?_)
  have hw : wW G (fun q => s9.heap.size ≤ q) s9.heap (wMd G a ((mdFails m (sx (i + 1))).2) ++ (wLg G g (xs (exIn bs.2.1 (sx (i + 1))) out (vp_updL out 0 (b2l ((skB so rs tx ty bs).2.2.2.2 (iN (sx (i + 1)) + 1)).2.2.2.2.2.2.2.2.2))) ++ (wRw G r (xs (exIn bs.2.1 (sx (i + 1))) rs (rs.1, rs.2.1, rs.2.2.1, rs.2.2.2.1, rs.2.2.2.2.1, (skS so rs tx ty), rs.2.2.2.2.2.2)) ++ (wOb G (o, x.1, y.1, r.1, b.1) (xs (exIn bs.2.1 (sx (i + 1))) so (so.1, skF so)) ++ (wAx G x (xs (exIn bs.2.1 (sx (i + 1))) tx (skX so rs tx ty)) ++ (wAx G y (xs (exIn bs.2.1 (sx (i + 1))) ty (skY so rs tx ty)) ++ (wBd G b (xs (exIn bs.2.1 (sx (i + 1))) bs (skB so rs tx ty bs))))))))) H locs := hw
  refine lv_iload hx hb dL_law_1002 (lv_at hl 1 rfl) ?_
  refine lv_icmp_eq (tgt := 1009) hx hb dL_law_1004 (by decide) (fun c_1004 => ?_) (fun c_1004 => ?_)
  · refine lv_iload hx hb dL_law_1009 (lv_at hl 1 rfl) ?_
    refine lv_if_ne (tgt := 1033) hx hb dL_law_1011 (by decide) (fun c_1011 => ?_) (fun c_1011 => ?_)
    · refine lv_goto (tgt := 1062) hx hb dL_law_1033 (by decide) ?_
      exact W.widen (k := kc + 5) (n := ks + 30) (by omega) (by omega) (kk _ _ _ _ _ _ _ _ _ _ hR1 hw (lv_sub hl [2, 3, 4, 5, 6] rfl))
    · have hq := hout c_1011
      refine lv_aload_n hx hb dL_law_1014 rfl (lv_at hl 5 rfl) ?_
      refine lv_iconst (v := 0) hx hb dL_law_1015 (by decide) ?_
      refine r_lald (v := (xs (exIn bs.2.1 (sx (i + 1))) out (vp_updL out 0 (b2l ((skB so rs tx ty bs).2.2.2.2 (iN (sx (i + 1)) + 1)).2.2.2.2.2.2.2.2.2))) 0) hx hb hK hw 22 rfl 0 rfl (by omega) (by decide) rfl dL_law_1016 ?_
      refine lv_iload hx hb dL_law_1017 (lv_at hl 0 rfl) ?_
      refine lv_if_eq (tgt := 1026) hx hb dL_law_1019 (by decide) (fun c_1019 => ?_) (fun c_1019 => ?_)
      · have hq := hq.trans (show b2l _ = 0 by unfold b2l; rw [if_pos c_1019])
        refine lv_lconst (v := 0) hx hb dL_law_1026 (by decide) ?_
        refine W.lcmp hx hb dL_law_1027 ?_
        refine lv_if_eq (tgt := 1033) hx hb dL_law_1028 (by decide) (fun c_1028 => ?_) (fun c_1028 => ?_)
        · refine lv_goto (tgt := 1062) hx hb dL_law_1033 (by decide) ?_
          exact W.widen (k := kc + 5) (n := ks + 30) (by omega) (by omega) (kk _ _ _ _ _ _ _ _ _ _ hR1 hw (lv_sub hl [2, 3, 4, 5, 6] rfl))
        · exact absurd ((lg_cmp_eq _ _).mpr hq) c_1028
      · have hq := hq.trans (show b2l _ = 1 by unfold b2l; rw [if_neg c_1019])
        refine lv_lconst (v := 1) hx hb dL_law_1022 (by decide) ?_
        refine lv_goto (tgt := 1027) hx hb dL_law_1023 (by decide) ?_
        refine W.lcmp hx hb dL_law_1027 ?_
        refine lv_if_eq (tgt := 1033) hx hb dL_law_1028 (by decide) (fun c_1028 => ?_) (fun c_1028 => ?_)
        · refine lv_goto (tgt := 1062) hx hb dL_law_1033 (by decide) ?_
          exact W.widen (k := kc + 5) (n := ks + 30) (by omega) (by omega) (kk _ _ _ _ _ _ _ _ _ _ hR1 hw (lv_sub hl [2, 3, 4, 5, 6] rfl))
        · exact absurd ((lg_cmp_eq _ _).mpr hq) c_1028
  · exact absurd hth c_1004

set_option maxHeartbeats 4000000 in
set_option maxRecDepth 100000 in
/-- the law: wishes -/
theorem lc_wishes {p9 : Program} {l : Launch} {e9 : Env} {s9 : State} {m9 : MethodId} {be9 : List Frame} {mt9 : Method} {c9 : Code} {sc L : Nat} {sx : Nat → Int32} {G : gT} {X : Nat → Nat} (C9 : lC p9 l s9 m9 mt9 c9 sc L sx G X) (a : aMd) (g o : Nat) (r : aRw) (x y : aAx) (b : aBd) {m : tMd} {out : Nat → Int64} {rs : tRw} {so : tOb} {tx ty : tAx} {bs : tBd} (hR : LR m rs so tx ty bs) {i : Nat} (hi : i + 5 ≤ L) {kc ks : Nat} (hkc : kc + 5 ≤ 601024) (hks : ks + 30 ≤ 7293034) (kk : lGo p9 l e9 s9 m9 be9 mt9 c9 sc G a g o r x y b i (kc + 5) (ks + 30)) {H : Heap} {locs : List Loc} {ls : Array Slot} (hw : wW G (fun q => s9.heap.size ≤ q) s9.heap (lWd G a g o r x y b m out rs so tx ty bs) H locs) (hl : lv_has ls 7 [(0, .ref sc), (1, .ref o), (2, .ref (a 0)), (3, .ref g), (4, .int (nI i))]) : W p9 l e9 room_1 s9 m9 #[.ref sc] be9 mt9 c9 H locs kc ks (lw_Z be9 #[.ref sc] s9) (F0 m9 520 ls []) := by
  obtain ⟨⟨hx, hb, -, hml, hown, hts0, hX, hbl, hlocks, -⟩, hL, hst, hK, hF, hN⟩ := C9
  have hts : ∀ w ∈ wsL_law, w.before #[Value.ref sc] s9 = true := fun w hw => hts0 w (wsL_law_in w hw)
  have hA : ∀ q : Nat, s9.heap.size ≤ q → (fun q : Nat => s9.heap.size ≤ q) q := fun _ h => h
  have hbA : ¬ (fun q : Nat => s9.heap.size ≤ q) sc := Nat.not_le.mpr hbl
  have hb8 : bs.2.1 ≤ 8 := by rw [hR.2.2.1.1.2.1]; exact hR.2.2.1.1.2.2.1
  have hw : wW G (fun q => s9.heap.size ≤ q) s9.heap (wMd G a m ++ (wLg G g out ++ (wRw G r rs ++ (wOb G (o, x.1, y.1, r.1, b.1) so ++ (wAx G x tx ++ (wAx G y ty ++ (wBd G b bs))))))) H locs := hw
  have hq := lm_wishes hR
  have hR1 : LR (0, m.2) rs so tx ty bs := hR
  refine lv_aload_n hx hb dL_law_520 rfl (lv_at hl 1 rfl) ?_
  have hwc : wW G (fun q => s9.heap.size ≤ q) s9.heap ((wMd G a m ++ (wLg G g out)) ++ ((wRw G r rs ++ (wOb G (o, x.1, y.1, r.1, b.1) so)) ++ (wAx G x tx ++ (wAx G y ty ++ (wBd G b bs))))) H locs := hw
  refine r_calli (res := (nI rs.1)) (u := wMd G a m ++ (wLg G g out)) (w := wRw G r rs ++ (wOb G (o, x.1, y.1, r.1, b.1) so)) (v := wAx G x tx ++ (wAx G y ty ++ (wBd G b bs))) (va_runV (As := []) (rest := []) ⟨hx, hb, hml, hown, hts⟩ (c_wishes l G r rs so o x y b H.size) (cwV 0 hts gL_law_X4_wishes rfl rfl rfl (by decide +kernel) ⟨Nat.le_of_ble_eq_true rfl, Nat.le_of_ble_eq_true rfl⟩) (r_preV (ci := 4) (q0 := 34) hK hwc rfl rfl rfl) rfl rfl hl.1 rfl (lv_room (Nat.le_of_ble_eq_true rfl)) dL_law_521 ⟨show kc + 0 ≤ 601024 by omega, show ks + 0 ≤ 7293034 by omega⟩) hwc hA rfl rfl (fun H locs hw => ?_)
  have hw : wW G (fun q => s9.heap.size ≤ q) s9.heap (wMd G a m ++ (wLg G g out ++ (wRw G r rs ++ (wOb G (o, x.1, y.1, r.1, b.1) so ++ (wAx G x tx ++ (wAx G y ty ++ (wBd G b bs))))))) H locs := hw
  refine lv_aload_n hx hb dL_law_524 rfl (lv_at hl 2 rfl) ?_
  have hwc : wW G (fun q => s9.heap.size ≤ q) s9.heap (([] : va_W) ++ ((wMd G a m) ++ (wLg G g out ++ (wRw G r rs ++ (wOb G (o, x.1, y.1, r.1, b.1) so ++ (wAx G x tx ++ (wAx G y ty ++ (wBd G b bs)))))))) H locs := hw
  refine r_calli (res := (nI m.2.1.2.2.2.1)) (u := ([] : va_W)) (w := wMd G a m) (v := wLg G g out ++ (wRw G r rs ++ (wOb G (o, x.1, y.1, r.1, b.1) so ++ (wAx G x tx ++ (wAx G y ty ++ (wBd G b bs)))))) (va_runV (As := []) (rest := [.int (nI rs.1)]) ⟨hx, hb, hml, hown, hts⟩ (c_m_wishes l G a m H.size) (cwV 0 hts gL_law_X5_wishes rfl rfl rfl (by decide +kernel) ⟨Nat.le_of_ble_eq_true rfl, Nat.le_of_ble_eq_true rfl⟩) (r_preV (ci := 5) (q0 := 0) hK hwc rfl rfl rfl) rfl rfl hl.1 rfl (lv_room (Nat.le_of_ble_eq_true rfl)) dL_law_525 ⟨show kc + 0 + 0 ≤ 601024 by omega, show ks + 0 + 0 ≤ 7293034 by omega⟩) hwc hA rfl rfl (fun H locs hw => ?_)
  have hw : wW G (fun q => s9.heap.size ≤ q) s9.heap (wMd G a (0, m.2.1, m.2.2.1, m.2.2.2.1, m.2.2.2.2.1, m.2.2.2.2.2.1, m.2.2.2.2.2.2) ++ (wLg G g out ++ (wRw G r rs ++ (wOb G (o, x.1, y.1, r.1, b.1) so ++ (wAx G x tx ++ (wAx G y ty ++ (wBd G b bs))))))) H locs := hw
  refine lv_icmp_eq (tgt := 1062) hx hb dL_law_528 (by decide) (fun c_528 => ?_) (fun c_528 => ?_)
  · exact W.widen (k := kc + 5) (n := ks + 30) (by omega) (by omega) (kk _ _ _ _ _ _ _ _ _ _ hR1 hw (lv_sub hl [0, 1, 2, 3, 4] rfl))
  · exact absurd hq c_528

set_option maxHeartbeats 4000000 in
set_option maxRecDepth 100000 in
/-- the law: freedom -/
theorem lc_freedom {p9 : Program} {l : Launch} {e9 : Env} {s9 : State} {m9 : MethodId} {be9 : List Frame} {mt9 : Method} {c9 : Code} {sc L : Nat} {sx : Nat → Int32} {G : gT} {X : Nat → Nat} (C9 : lC p9 l s9 m9 mt9 c9 sc L sx G X) (a : aMd) (g o : Nat) (r : aRw) (x y : aAx) (b : aBd) {m : tMd} {out : Nat → Int64} {rs : tRw} {so : tOb} {tx ty : tAx} {bs : tBd} (hR : LR m rs so tx ty bs) {i : Nat} (hi : i + 5 ≤ L) {kc ks : Nat} (hkc : kc + 5 ≤ 601024) (hks : ks + 30 ≤ 7293034) (kk : lGo p9 l e9 s9 m9 be9 mt9 c9 sc G a g o r x y b i (kc + 5) (ks + 30)) {H : Heap} {locs : List Loc} {ls : Array Slot} (hw : wW G (fun q => s9.heap.size ≤ q) s9.heap (lWd G a g o r x y b m out rs so tx ty bs) H locs) (hl : lv_has ls 7 [(0, .ref sc), (1, .ref o), (2, .ref (a 0)), (3, .ref g), (4, .int (nI i))]) : W p9 l e9 room_1 s9 m9 #[.ref sc] be9 mt9 c9 H locs kc ks (lw_Z be9 #[.ref sc] s9) (F0 m9 533 ls []) := by
  obtain ⟨⟨hx, hb, -, hml, hown, hts0, hX, hbl, hlocks, -⟩, hL, hst, hK, hF, hN⟩ := C9
  have hts : ∀ w ∈ wsL_law, w.before #[Value.ref sc] s9 = true := fun w hw => hts0 w (wsL_law_in w hw)
  have hA : ∀ q : Nat, s9.heap.size ≤ q → (fun q : Nat => s9.heap.size ≤ q) q := fun _ h => h
  have hbA : ¬ (fun q : Nat => s9.heap.size ≤ q) sc := Nat.not_le.mpr hbl
  have hb8 : bs.2.1 ≤ 8 := by rw [hR.2.2.1.1.2.1]; exact hR.2.2.1.1.2.2.1
  have hw : wW G (fun q => s9.heap.size ≤ q) s9.heap (wMd G a m ++ (wLg G g out ++ (wRw G r rs ++ (wOb G (o, x.1, y.1, r.1, b.1) so ++ (wAx G x tx ++ (wAx G y ty ++ (wBd G b bs))))))) H locs := hw
  have hq := lm_freedom hR
  have hR1 : LR (0, m.2.1, m.2.2.1, mdSolve m.2.1 m.2.2.2.1, m.2.2.2.2) (rwSt rs (skS so rs tx ty)) (so.1, skF so) (skX so rs tx ty) (skY so rs tx ty) bs := LRs.set hR
  refine lv_aload_n hx hb dL_law_533 rfl (lv_at hl 1 rfl) ?_
  have hwc : wW G (fun q => s9.heap.size ≤ q) s9.heap ((wMd G a m ++ (wLg G g out)) ++ ((wRw G r rs ++ (wOb G (o, x.1, y.1, r.1, b.1) so ++ (wAx G x tx ++ (wAx G y ty)))) ++ (wBd G b bs))) H locs := hw
  refine r_calli (res := ((skX so rs tx ty).2.1 + (skY so rs tx ty).2.1)) (u := wMd G a m ++ (wLg G g out)) (w := wRw G r rs ++ (wOb G (o, x.1, y.1, r.1, b.1) so ++ (wAx G x tx ++ (wAx G y ty)))) (v := wBd G b bs) (va_runV (As := []) (rest := []) ⟨hx, hb, hml, hown, hts⟩ (c_freedom l G r rs so x tx y ty o b (LRs.skOk hR) H.size) (cwV 0 hts gL_law_X4_freedom rfl rfl rfl (by decide +kernel) ⟨Nat.le_of_ble_eq_true rfl, Nat.le_of_ble_eq_true rfl⟩) (r_preV (ci := 4) (q0 := 34) hK hwc rfl rfl rfl) rfl rfl hl.1 rfl (lv_room (Nat.le_of_ble_eq_true rfl)) dL_law_534 ⟨show kc + 0 ≤ 601024 by omega, show ks + 0 ≤ 7293034 by omega⟩) hwc hA rfl rfl (fun H locs hw => ?_)
  have hw : wW G (fun q => s9.heap.size ≤ q) s9.heap (wMd G a m ++ (wLg G g out ++ (wRw G r (rs.1, rs.2.1, rs.2.2.1, rs.2.2.2.1, rs.2.2.2.2.1, (skS so rs tx ty), rs.2.2.2.2.2.2) ++ (wOb G (o, x.1, y.1, r.1, b.1) (so.1, skF so) ++ (wAx G x (skX so rs tx ty) ++ (wAx G y (skY so rs tx ty) ++ (wBd G b bs))))))) H locs := hw
  refine lv_aload_n hx hb dL_law_537 rfl (lv_at hl 2 rfl) ?_
  have hwc : wW G (fun q => s9.heap.size ≤ q) s9.heap (([] : va_W) ++ ((wMd G a m) ++ (wLg G g out ++ (wRw G r (rs.1, rs.2.1, rs.2.2.1, rs.2.2.2.1, rs.2.2.2.2.1, (skS so rs tx ty), rs.2.2.2.2.2.2) ++ (wOb G (o, x.1, y.1, r.1, b.1) (so.1, skF so) ++ (wAx G x (skX so rs tx ty) ++ (wAx G y (skY so rs tx ty) ++ (wBd G b bs)))))))) H locs := hw
  refine r_calli (res := (mdFree (mdSolve m.2.1 m.2.2.2.1).2.1 m.2.1.1 34)) (u := ([] : va_W)) (w := wMd G a m) (v := wLg G g out ++ (wRw G r (rs.1, rs.2.1, rs.2.2.1, rs.2.2.2.1, rs.2.2.2.2.1, (skS so rs tx ty), rs.2.2.2.2.2.2) ++ (wOb G (o, x.1, y.1, r.1, b.1) (so.1, skF so) ++ (wAx G x (skX so rs tx ty) ++ (wAx G y (skY so rs tx ty) ++ (wBd G b bs)))))) (va_runV (As := []) (rest := [.int ((skX so rs tx ty).2.1 + (skY so rs tx ty).2.1)]) ⟨hx, hb, hml, hown, hts⟩ (c_m_freedom l G a m (LRs.mdOk hR) hR.np.2 H.size) (cwV 0 hts gL_law_X5_freedom rfl rfl rfl (by decide +kernel) ⟨Nat.le_of_ble_eq_true rfl, Nat.le_of_ble_eq_true rfl⟩) (r_preV (ci := 5) (q0 := 0) hK hwc rfl rfl rfl) rfl rfl hl.1 rfl (lv_room (Nat.le_of_ble_eq_true rfl)) dL_law_538 ⟨show kc + 0 + 0 ≤ 601024 by omega, show ks + 0 + 0 ≤ 7293034 by omega⟩) hwc hA rfl rfl (fun H locs hw => ?_)
  have hw : wW G (fun q => s9.heap.size ≤ q) s9.heap (wMd G a (0, m.2.1, m.2.2.1, (mdSolve m.2.1 m.2.2.2.1), m.2.2.2.2.1, m.2.2.2.2.2.1, m.2.2.2.2.2.2) ++ (wLg G g out ++ (wRw G r (rs.1, rs.2.1, rs.2.2.1, rs.2.2.2.1, rs.2.2.2.2.1, (skS so rs tx ty), rs.2.2.2.2.2.2) ++ (wOb G (o, x.1, y.1, r.1, b.1) (so.1, skF so) ++ (wAx G x (skX so rs tx ty) ++ (wAx G y (skY so rs tx ty) ++ (wBd G b bs))))))) H locs := hw
  refine lv_icmp_eq (tgt := 1062) hx hb dL_law_541 (by decide) (fun c_541 => ?_) (fun c_541 => ?_)
  · exact W.widen (k := kc + 5) (n := ks + 30) (by omega) (by omega) (kk _ _ _ _ _ _ _ _ _ _ hR1 hw (lv_sub hl [0, 1, 2, 3, 4] rfl))
  · exact absurd hq c_541

set_option maxHeartbeats 4000000 in
set_option maxRecDepth 100000 in
/-- the law: volume -/
theorem lc_volume {p9 : Program} {l : Launch} {e9 : Env} {s9 : State} {m9 : MethodId} {be9 : List Frame} {mt9 : Method} {c9 : Code} {sc L : Nat} {sx : Nat → Int32} {G : gT} {X : Nat → Nat} (C9 : lC p9 l s9 m9 mt9 c9 sc L sx G X) (a : aMd) (g o : Nat) (r : aRw) (x y : aAx) (b : aBd) {m : tMd} {out : Nat → Int64} {rs : tRw} {so : tOb} {tx ty : tAx} {bs : tBd} (hR : LR m rs so tx ty bs) {i : Nat} (hi : i + 5 ≤ L) {kc ks : Nat} (hkc : kc + 5 ≤ 601024) (hks : ks + 30 ≤ 7293034) (kk : lGo p9 l e9 s9 m9 be9 mt9 c9 sc G a g o r x y b i (kc + 5) (ks + 30)) {H : Heap} {locs : List Loc} {ls : Array Slot} (hw : wW G (fun q => s9.heap.size ≤ q) s9.heap (lWd G a g o r x y b m out rs so tx ty bs) H locs) (hl : lv_has ls 7 [(0, .ref sc), (1, .ref o), (2, .ref (a 0)), (3, .ref g), (4, .int (nI i))]) : W p9 l e9 room_1 s9 m9 #[.ref sc] be9 mt9 c9 H locs kc ks (lw_Z be9 #[.ref sc] s9) (F0 m9 1036 ls []) := by
  obtain ⟨⟨hx, hb, -, hml, hown, hts0, hX, hbl, hlocks, -⟩, hL, hst, hK, hF, hN⟩ := C9
  have hts : ∀ w ∈ wsL_law, w.before #[Value.ref sc] s9 = true := fun w hw => hts0 w (wsL_law_in w hw)
  have hA : ∀ q : Nat, s9.heap.size ≤ q → (fun q : Nat => s9.heap.size ≤ q) q := fun _ h => h
  have hbA : ¬ (fun q : Nat => s9.heap.size ≤ q) sc := Nat.not_le.mpr hbl
  have hb8 : bs.2.1 ≤ 8 := by rw [hR.2.2.1.1.2.1]; exact hR.2.2.1.1.2.2.1
  have hw : wW G (fun q => s9.heap.size ≤ q) s9.heap (wMd G a m ++ (wLg G g out ++ (wRw G r rs ++ (wOb G (o, x.1, y.1, r.1, b.1) so ++ (wAx G x tx ++ (wAx G y ty ++ (wBd G b bs))))))) H locs := hw
  obtain ⟨hq, hR1⟩ := lm_volume hR
  refine lv_aload_n hx hb dL_law_1036 rfl (lv_at hl 1 rfl) ?_
  have hwc : wW G (fun q => s9.heap.size ≤ q) s9.heap ((wMd G a m ++ (wLg G g out)) ++ ((wRw G r rs ++ (wOb G (o, x.1, y.1, r.1, b.1) so ++ (wAx G x tx ++ (wAx G y ty ++ (wBd G b bs))))) ++ ([] : va_W))) H locs := hw
  refine r_calli (res := (skVol (skB so rs tx ty bs))) (u := wMd G a m ++ (wLg G g out)) (w := wRw G r rs ++ (wOb G (o, x.1, y.1, r.1, b.1) so ++ (wAx G x tx ++ (wAx G y ty ++ (wBd G b bs))))) (v := ([] : va_W)) (va_runV (As := []) (rest := []) ⟨hx, hb, hml, hown, hts⟩ (c_volume l G r rs so x tx y ty b bs o (LRs.skOk hR) hb8 hR.2.2.1.2.1 H.size) (cwV 0 hts gL_law_X4_volume rfl rfl rfl (by decide +kernel) ⟨Nat.le_of_ble_eq_true rfl, Nat.le_of_ble_eq_true rfl⟩) (r_preV (ci := 4) (q0 := 34) hK hwc rfl rfl rfl) rfl rfl hl.1 rfl (lv_room (Nat.le_of_ble_eq_true rfl)) dL_law_1037 ⟨show kc + 0 ≤ 601024 by omega, show ks + 0 ≤ 7293034 by omega⟩) hwc hA rfl rfl (fun H locs hw => ?_)
  have hw : wW G (fun q => s9.heap.size ≤ q) s9.heap (wMd G a m ++ (wLg G g out ++ (wRw G r (rs.1, rs.2.1, rs.2.2.1, rs.2.2.2.1, rs.2.2.2.2.1, (skS so rs tx ty), rs.2.2.2.2.2.2) ++ (wOb G (o, x.1, y.1, r.1, b.1) (so.1, skF so) ++ (wAx G x (skX so rs tx ty) ++ (wAx G y (skY so rs tx ty) ++ (wBd G b (skT (skB so rs tx ty bs))))))))) H locs := hw
  refine lv_aload_n hx hb dL_law_1040 rfl (lv_at hl 2 rfl) ?_
  have hwc : wW G (fun q => s9.heap.size ≤ q) s9.heap (([] : va_W) ++ ((wMd G a m) ++ (wLg G g out ++ (wRw G r (rs.1, rs.2.1, rs.2.2.1, rs.2.2.2.1, rs.2.2.2.2.1, (skS so rs tx ty), rs.2.2.2.2.2.2) ++ (wOb G (o, x.1, y.1, r.1, b.1) (so.1, skF so) ++ (wAx G x (skX so rs tx ty) ++ (wAx G y (skY so rs tx ty) ++ (wBd G b (skT (skB so rs tx ty bs)))))))))) H locs := hw
  refine r_calli (res := ((mdVolume m).1)) (u := ([] : va_W)) (w := wMd G a m) (v := wLg G g out ++ (wRw G r (rs.1, rs.2.1, rs.2.2.1, rs.2.2.2.1, rs.2.2.2.2.1, (skS so rs tx ty), rs.2.2.2.2.2.2) ++ (wOb G (o, x.1, y.1, r.1, b.1) (so.1, skF so) ++ (wAx G x (skX so rs tx ty) ++ (wAx G y (skY so rs tx ty) ++ (wBd G b (skT (skB so rs tx ty bs)))))))) (va_runV (As := []) (rest := [.int (skVol (skB so rs tx ty bs))]) ⟨hx, hb, hml, hown, hts⟩ (c_m_volume l G a m (LRs.mdOk hR) (LRs.mdBok hR) H.size) (cwV 0 hts gL_law_X5_volume rfl rfl rfl (by decide +kernel) ⟨Nat.le_of_ble_eq_true rfl, Nat.le_of_ble_eq_true rfl⟩) (r_preV (ci := 5) (q0 := 0) hK hwc rfl rfl rfl) rfl rfl hl.1 rfl (lv_room (Nat.le_of_ble_eq_true rfl)) dL_law_1041 ⟨show kc + 0 + 0 ≤ 601024 by omega, show ks + 0 + 0 ≤ 7293034 by omega⟩) hwc hA rfl rfl (fun H locs hw => ?_)
  have hw : wW G (fun q => s9.heap.size ≤ q) s9.heap (wMd G a ((mdVolume m).2) ++ (wLg G g out ++ (wRw G r (rs.1, rs.2.1, rs.2.2.1, rs.2.2.2.1, rs.2.2.2.2.1, (skS so rs tx ty), rs.2.2.2.2.2.2) ++ (wOb G (o, x.1, y.1, r.1, b.1) (so.1, skF so) ++ (wAx G x (skX so rs tx ty) ++ (wAx G y (skY so rs tx ty) ++ (wBd G b (skT (skB so rs tx ty bs))))))))) H locs := hw
  refine lv_icmp_eq (tgt := 1062) hx hb dL_law_1044 (by decide) (fun c_1044 => ?_) (fun c_1044 => ?_)
  · exact W.widen (k := kc + 5) (n := ks + 30) (by omega) (by omega) (kk _ _ _ _ _ _ _ _ _ _ hR1 hw (lv_sub hl [0, 1, 2, 3, 4] rfl))
  · exact absurd hq c_1044

set_option maxHeartbeats 4000000 in
set_option maxRecDepth 100000 in
/-- the law: price -/
theorem lc_price {p9 : Program} {l : Launch} {e9 : Env} {s9 : State} {m9 : MethodId} {be9 : List Frame} {mt9 : Method} {c9 : Code} {sc L : Nat} {sx : Nat → Int32} {G : gT} {X : Nat → Nat} (C9 : lC p9 l s9 m9 mt9 c9 sc L sx G X) (a : aMd) (g o : Nat) (r : aRw) (x y : aAx) (b : aBd) {m : tMd} {out : Nat → Int64} {rs : tRw} {so : tOb} {tx ty : tAx} {bs : tBd} (hR : LR m rs so tx ty bs) {i : Nat} (hi : i + 5 ≤ L) {kc ks : Nat} (hkc : kc + 5 ≤ 601024) (hks : ks + 30 ≤ 7293034) (kk : lGo p9 l e9 s9 m9 be9 mt9 c9 sc G a g o r x y b i (kc + 5) (ks + 30)) {H : Heap} {locs : List Loc} {ls : Array Slot} (hw : wW G (fun q => s9.heap.size ≤ q) s9.heap (lWd G a g o r x y b m out rs so tx ty bs) H locs) (hl : lv_has ls 7 [(0, .ref sc), (1, .ref o), (2, .ref (a 0)), (3, .ref g), (4, .int (nI i))]) : W p9 l e9 room_1 s9 m9 #[.ref sc] be9 mt9 c9 H locs kc ks (lw_Z be9 #[.ref sc] s9) (F0 m9 1049 ls []) := by
  obtain ⟨⟨hx, hb, -, hml, hown, hts0, hX, hbl, hlocks, -⟩, hL, hst, hK, hF, hN⟩ := C9
  have hts : ∀ w ∈ wsL_law, w.before #[Value.ref sc] s9 = true := fun w hw => hts0 w (wsL_law_in w hw)
  have hA : ∀ q : Nat, s9.heap.size ≤ q → (fun q : Nat => s9.heap.size ≤ q) q := fun _ h => h
  have hbA : ¬ (fun q : Nat => s9.heap.size ≤ q) sc := Nat.not_le.mpr hbl
  have hb8 : bs.2.1 ≤ 8 := by rw [hR.2.2.1.1.2.1]; exact hR.2.2.1.1.2.2.1
  have hw : wW G (fun q => s9.heap.size ≤ q) s9.heap (wMd G a m ++ (wLg G g out ++ (wRw G r rs ++ (wOb G (o, x.1, y.1, r.1, b.1) so ++ (wAx G x tx ++ (wAx G y ty ++ (wBd G b bs))))))) H locs := hw
  obtain ⟨hq, hR1⟩ := lm_price hR
  refine lv_aload_n hx hb dL_law_1049 rfl (lv_at hl 1 rfl) ?_
  have hwc : wW G (fun q => s9.heap.size ≤ q) s9.heap ((wMd G a m ++ (wLg G g out)) ++ ((wRw G r rs ++ (wOb G (o, x.1, y.1, r.1, b.1) so ++ (wAx G x tx ++ (wAx G y ty ++ (wBd G b bs))))) ++ ([] : va_W))) H locs := hw
  refine r_calli (res := (skPri (skB so rs tx ty bs))) (u := wMd G a m ++ (wLg G g out)) (w := wRw G r rs ++ (wOb G (o, x.1, y.1, r.1, b.1) so ++ (wAx G x tx ++ (wAx G y ty ++ (wBd G b bs))))) (v := ([] : va_W)) (va_runV (As := []) (rest := []) ⟨hx, hb, hml, hown, hts⟩ (c_price l G r rs so x tx y ty b bs o (LRs.skOk hR) hb8 hR.2.2.1.2.1 H.size) (cwV 0 hts gL_law_X4_price rfl rfl rfl (by decide +kernel) ⟨Nat.le_of_ble_eq_true rfl, Nat.le_of_ble_eq_true rfl⟩) (r_preV (ci := 4) (q0 := 34) hK hwc rfl rfl rfl) rfl rfl hl.1 rfl (lv_room (Nat.le_of_ble_eq_true rfl)) dL_law_1050 ⟨show kc + 0 ≤ 601024 by omega, show ks + 0 ≤ 7293034 by omega⟩) hwc hA rfl rfl (fun H locs hw => ?_)
  have hw : wW G (fun q => s9.heap.size ≤ q) s9.heap (wMd G a m ++ (wLg G g out ++ (wRw G r (rs.1, rs.2.1, rs.2.2.1, rs.2.2.2.1, rs.2.2.2.2.1, (skS so rs tx ty), rs.2.2.2.2.2.2) ++ (wOb G (o, x.1, y.1, r.1, b.1) (so.1, skF so) ++ (wAx G x (skX so rs tx ty) ++ (wAx G y (skY so rs tx ty) ++ (wBd G b (skT (skB so rs tx ty bs))))))))) H locs := hw
  refine lv_aload_n hx hb dL_law_1053 rfl (lv_at hl 2 rfl) ?_
  have hwc : wW G (fun q => s9.heap.size ≤ q) s9.heap (([] : va_W) ++ ((wMd G a m) ++ (wLg G g out ++ (wRw G r (rs.1, rs.2.1, rs.2.2.1, rs.2.2.2.1, rs.2.2.2.2.1, (skS so rs tx ty), rs.2.2.2.2.2.2) ++ (wOb G (o, x.1, y.1, r.1, b.1) (so.1, skF so) ++ (wAx G x (skX so rs tx ty) ++ (wAx G y (skY so rs tx ty) ++ (wBd G b (skT (skB so rs tx ty bs)))))))))) H locs := hw
  refine r_calli (res := ((mdPrice m).1)) (u := ([] : va_W)) (w := wMd G a m) (v := wLg G g out ++ (wRw G r (rs.1, rs.2.1, rs.2.2.1, rs.2.2.2.1, rs.2.2.2.2.1, (skS so rs tx ty), rs.2.2.2.2.2.2) ++ (wOb G (o, x.1, y.1, r.1, b.1) (so.1, skF so) ++ (wAx G x (skX so rs tx ty) ++ (wAx G y (skY so rs tx ty) ++ (wBd G b (skT (skB so rs tx ty bs)))))))) (va_runV (As := []) (rest := [.int (skPri (skB so rs tx ty bs))]) ⟨hx, hb, hml, hown, hts⟩ (c_m_price l G a m (LRs.mdOk hR) (LRs.mdBok hR) H.size) (cwV 0 hts gL_law_X5_price rfl rfl rfl (by decide +kernel) ⟨Nat.le_of_ble_eq_true rfl, Nat.le_of_ble_eq_true rfl⟩) (r_preV (ci := 5) (q0 := 0) hK hwc rfl rfl rfl) rfl rfl hl.1 rfl (lv_room (Nat.le_of_ble_eq_true rfl)) dL_law_1054 ⟨show kc + 0 + 0 ≤ 601024 by omega, show ks + 0 + 0 ≤ 7293034 by omega⟩) hwc hA rfl rfl (fun H locs hw => ?_)
  have hw : wW G (fun q => s9.heap.size ≤ q) s9.heap (wMd G a ((mdPrice m).2) ++ (wLg G g out ++ (wRw G r (rs.1, rs.2.1, rs.2.2.1, rs.2.2.2.1, rs.2.2.2.2.1, (skS so rs tx ty), rs.2.2.2.2.2.2) ++ (wOb G (o, x.1, y.1, r.1, b.1) (so.1, skF so) ++ (wAx G x (skX so rs tx ty) ++ (wAx G y (skY so rs tx ty) ++ (wBd G b (skT (skB so rs tx ty bs))))))))) H locs := hw
  refine lv_icmp_eq (tgt := 1062) hx hb dL_law_1057 (by decide) (fun c_1057 => ?_) (fun c_1057 => ?_)
  · exact W.widen (k := kc + 5) (n := ks + 30) (by omega) (by omega) (kk _ _ _ _ _ _ _ _ _ _ hR1 hw (lv_sub hl [0, 1, 2, 3, 4] rfl))
  · exact absurd hq c_1057
